/** Promise 7: row. */
public final class RowTest {
    public static void main(String[] args) {
        Checks checks = new Checks();
        QueryStore store = Checks.storeWith(1, "5,50,500", "4,40,400", "6,60,600");
        for (int i = 0; i < 3; i++) {
            checks.same("a of row " + i, store.row(1, i, 0), 4 + i);
            checks.same("b of row " + i, store.row(1, i, 1), 40 + 10 * i);
            checks.same("c of row " + i, store.row(1, i, 2), 400 + 100 * i);
        }
        int[] bad = {-1, 0, 0, 3, 0, 0, 1, 0, -1, 1, 0, 3, -1, -1, -1, 3, 99, 9, 1, 99, 3, 0, 0, 3,
            Integer.MIN_VALUE, 0, 0, Integer.MAX_VALUE, 0, 0, 1, 0, Integer.MAX_VALUE, 1, 0, Integer.MIN_VALUE};
        for (int n = 0; n < bad.length; n += 3) {
            fails(checks, store, Checks.BAD, bad[n], bad[n + 1], bad[n + 2]);
        }
        int[] notThere = {1, 3, 0, 1, -1, 0, 0, 0, 0, 2, 0, 2, 1, 20, 0, 1, Integer.MAX_VALUE, 0, 1,
            Integer.MIN_VALUE, 0};
        for (int n = 0; n < notThere.length; n += 3) {
            fails(checks, store, Checks.NOT_THERE, notThere[n], notThere[n + 1], notThere[n + 2]);
        }
        rowsComeAndGo(checks);
        rowsMoveOn(checks);
        checks.finish();
    }

    private static void fails(Checks checks, QueryStore store, Class<? extends RuntimeException> due,
            int table, int i, int j) {
        checks.throwsThat("row(" + table + ", " + i + ", " + j + ")", due, () -> store.row(table, i, j));
    }

    // Pages fill, part and empty in this: whichever rows go, the others keep their order.
    private static void rowsComeAndGo(Checks checks) {
        for (int step = 1; step < 20; step += 2) {
            QueryStore store = new QueryStore();
            Checks.keep(store, 0, "I0(?,-?,?*?)");
            Checks.keep(store, 1, "D0[a%3=?]");
            for (int i = 0; i < 20; i++) {
                store.run(0, i * (step == 5 || step == 15 ? 1 : step) % 20);
            }
            checks.same("rows taken away", store.run(1, step % 3), step % 3 == 2 ? 6 : 7);
            int expected = 0;
            for (int key = 0; key < 20; key++) {
                if (key % 3 != step % 3) {
                    checks.same("a of row " + expected, store.row(0, expected, 0), key);
                    checks.same("b of row " + expected, store.row(0, expected, 1), -key);
                    checks.same("c of row " + expected, store.row(0, expected, 2), key * key);
                    expected++;
                }
            }
            fails(checks, store, Checks.NOT_THERE, 0, expected, 0);
            for (int key = step % 3; key < 20; key += 3) {
                store.run(0, key);
            }
            for (int key = 0; key < 20; key++) {
                checks.same("a of row " + key, store.row(0, key, 0), key);
            }
        }
    }

    // Many more rows come than the table holds, as others go: up and down the keys.
    private static void rowsMoveOn(Checks checks) {
        for (int way = -1; way <= 1; way += 2) {
            QueryStore store = new QueryStore();
            Checks.keep(store, 0, "I2(?,?*2,?*3)");
            Checks.keep(store, 1, way > 0 ? "D2[a<?-5]" : "D2[a>?+5]");
            for (int i = 0; i < 120; i++) {
                store.run(0, way * i);
                checks.same("rows taken away", store.run(1, way * i), i > 5 ? 1 : 0);
            }
            for (int i = 0; i < 6; i++) {
                int key = way > 0 ? 114 + i : i - 119;
                checks.same("a of row " + i, store.row(2, i, 0), key);
                checks.same("c of row " + i, store.row(2, i, 2), 3 * key);
            }
            fails(checks, store, Checks.NOT_THERE, 2, 6, 0);
        }
    }
}
