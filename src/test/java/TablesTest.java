/** Terms: TABLES. */
public final class TablesTest {
    private static final String WHERE = "Terms, TABLES";

    public static void main(String[] args) {
        Checks checks = new Checks();
        checks.sentence(WHERE, "TABLES 0 .. 2 have rows of three ints, a, b, c", TablesTest::threeInts);
        checks.sentence(WHERE, "at most 20", TablesTest::twentyRows);
        checks.sentence(WHERE, "a is the KEY, no two rows have the same", TablesTest::sameKey);
        checks.sentence(WHERE, "rows stand by rising KEY", TablesTest::leastAndGreatestKeys);
        checks.sentence(WHERE, "rows stand by rising KEY", TablesTest::rowsComeAndGo);
        checks.sentence(WHERE, "rows stand by rising KEY", TablesTest::rowsMoveOn);
        checks.finish();
    }

    private static void threeInts(Checks checks) {
        for (int table = 0; table < 3; table++) {
            QueryStore store = new QueryStore();
            Checks.ask(store, "I" + table + "(?,?-1,?+1)", Checks.LEAST);
            Checks.ask(store, "I" + table + "(?,?-1,?+1)", Checks.GREATEST);
            Checks.ask(store, "I" + table + "(?-1,?-2,?-3)", Checks.GREATEST);
            Checks.ask(store, "I" + table + "(0,0-1,1)");
            checks.sameText("rows of table " + table, Checks.rows(store, table),
                    "-2147483648,2147483647,-2147483647 0,-1,1 2147483646,2147483645,2147483644 "
                    + "2147483647,2147483646,-2147483648");
            checks.same("rows in all", store.count(3) + store.count(4) + store.count(5), 4);
        }
    }

    private static void twentyRows(Checks checks) {
        for (int table = 0; table < 3; table++) {
            QueryStore store = new QueryStore();
            String another = "I" + table + "(?,?,0)";
            for (int n = 0; n < 20; n++) {
                checks.same("row " + n, Checks.ask(store, another, 2 * n), 1);
            }
            String rows = Checks.rows(store, table);
            int[] keys = {-1, 7, 39, 40, Checks.LEAST, Checks.GREATEST};
            for (int key : keys) {
                checks.fails(store, another, key, Checks.STATE);
            }
            checks.sameText("rows of the full table", Checks.rows(store, table), rows);
            checks.gives(store, "I" + (table + 1) % 3 + "(7,0,0)", 0, 1, "");
            checks.gives(store, "D" + table + "[a=6]", 0, 1, "");
            checks.gives(store, another, 7, 1, "");
            checks.fails(store, another, 6, Checks.STATE);
            checks.same("rows of the full table", store.count(3 + table), 20);
        }
    }

    private static void sameKey(Checks checks) {
        QueryStore store = Checks.storeWith(0, "5,1,1", "6,1,1");
        checks.fails(store, "I0(5,1,1)", 0, Checks.STATE);
        checks.fails(store, "I0(6,7,8)", 0, Checks.STATE);
        checks.sameText("rows", Checks.rows(store, 0), "5,1,1 6,1,1");
        checks.gives(store, "I1(5,1,1)", 0, 1, "");
        checks.gives(store, "D0[a=5]", 0, 1, "");
        checks.gives(store, "I0(5,3,3)", 0, 1, "");
        int[] keys = {0, -1, Checks.LEAST, Checks.GREATEST};
        for (int key : keys) {
            checks.gives(store, "I0(?,0,0)", key, 1, "");
            checks.fails(store, "I0(?,1,1)", key, Checks.STATE);
        }
        QueryStore nearlyFull = Checks.filled(2, 19);
        for (int key = 0; key < 19; key++) {
            checks.fails(nearlyFull, "I2(?,9,9)", key, Checks.STATE);
        }
        checks.gives(nearlyFull, "I2(19,9,9)", 0, 1, "");
    }

    private static void leastAndGreatestKeys(Checks checks) {
        int[] keys = {Checks.LEAST, -1, 0, 1, Checks.GREATEST};
        for (int start = 0; start < 5; start++) {
            for (int step = 1; step < 5; step++) {
                QueryStore store = new QueryStore();
                for (int n = 0; n < 5; n++) {
                    Checks.ask(store, "I0(?,0,0)", keys[(start + n * step) % 5]);
                }
                for (int i = 0; i < 5; i++) {
                    checks.same("a of row " + i, store.row(0, i, 0), keys[i]);
                }
            }
        }
    }

    // Pages fill, part and empty in this: whichever rows go, the others keep their order.
    private static void rowsComeAndGo(Checks checks) {
        for (int step = 1; step < 20; step += 2) {
            QueryStore store = new QueryStore();
            Checks.keep(store, 0, "I0(?,-?,?*?)");
            Checks.keep(store, 1, "D0[a%3=?]");
            for (int i = 0; i < 20; i++) {
                store.run(0, i * (step == 5 || step == 15 ? 1 : step) % 20);
            }
            checks.same("rows taken away", store.run(1, step % 3), step % 3 == 2 ? 6 : 7);
            int expected = 0;
            for (int key = 0; key < 20; key++) {
                if (key % 3 != step % 3) {
                    checks.same("a of row " + expected, store.row(0, expected, 0), key);
                    checks.same("b of row " + expected, store.row(0, expected, 1), -key);
                    checks.same("c of row " + expected, store.row(0, expected, 2), key * key);
                    expected++;
                }
            }
            checks.same("rows", store.count(3), expected);
            for (int key = step % 3; key < 20; key += 3) {
                store.run(0, key);
            }
            for (int key = 0; key < 20; key++) {
                checks.same("a of row " + key, store.row(0, key, 0), key);
            }
        }
    }

    // Many more rows come than the table holds, as others go: up and down the keys.
    private static void rowsMoveOn(Checks checks) {
        for (int way = -1; way <= 1; way += 2) {
            QueryStore store = new QueryStore();
            Checks.keep(store, 0, "I2(?,?*2,?*3)");
            Checks.keep(store, 1, way > 0 ? "D2[a<?-5]" : "D2[a>?+5]");
            for (int i = 0; i < 120; i++) {
                store.run(0, way * i);
                checks.same("rows taken away", store.run(1, way * i), i > 5 ? 1 : 0);
            }
            for (int i = 0; i < 6; i++) {
                int key = way > 0 ? 114 + i : i - 119;
                checks.same("a of row " + i, store.row(2, i, 0), key);
                checks.same("c of row " + i, store.row(2, i, 2), 3 * key);
            }
            checks.same("rows", store.count(5), 6);
        }
    }
}
