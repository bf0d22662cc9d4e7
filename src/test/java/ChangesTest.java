/** Terms: CHANGES; promises 8 to 10: begin, end and back. */
public final class ChangesTest {
    private static final String CHANGES = "Terms, CHANGES";
    private static final String BEGIN = "Promise 8: begin";
    private static final String END = "Promise 9: end";
    private static final String BACK = "Promise 10: back";

    public static void main(String[] args) {
        Checks checks = new Checks();
        checks.sentence(CHANGES, "CHANGES since BEGIN are noted until END or BACK", ChangesTest::notedBetween);
        checks.sentence(CHANGES, "BACK makes all rows what they were at BEGIN", ChangesTest::rowsComeBack);
        checks.sentence(CHANGES, "BACK makes all rows what they were", ChangesTest::fullAndEmptyTablesComeBack);
        checks.sentence(CHANGES, "BACK makes all rows", ChangesTest::onlyRowsComeBack);
        checks.sentence(BEGIN, "BEGIN", ChangesTest::begins);
        checks.sentence(BEGIN, "It's begun already: IllegalStateException", ChangesTest::begunAlready);
        checks.sentence(END, "END", ChangesTest::endLeavesRows);
        checks.sentence(END, "Nothing is begun: IllegalStateException", ChangesTest::endOfNothing);
        checks.sentence(END, "Answers how many changes of rows were noted", ChangesTest::endOfNoChanges);
        checks.sentence(END, "each row put in, taken away or changed is one", ChangesTest::eachRowIsOne);
        checks.sentence(BACK, "Nothing is begun: IllegalStateException", ChangesTest::backOfNothing);
        checks.sentence(BACK, "Answers as end", ChangesTest::backAnswers);
        checks.finish();
    }

    private static void notedBetween(Checks checks) {
        QueryStore store = Checks.filled(0, 3);
        checks.same("noted before BEGIN", store.count(9), 0);
        store.begin();
        checks.same("noted at BEGIN", store.count(9), 0);
        Checks.ask(store, "D0[a=2]");
        checks.same("noted since BEGIN", store.count(9), 1);
        Checks.ask(store, "U0b=1");
        checks.same("noted since BEGIN", store.count(9), 3);
        checks.same("end()", store.end(), 3);
        checks.same("noted behind END", store.count(9), 0);
        Checks.ask(store, "I0(7,7,7)");
        checks.same("noted behind END", store.count(9), 0);
        store.begin();
        checks.same("noted at the next BEGIN", store.count(9), 0);
        Checks.ask(store, "D0");
        checks.same("noted since BEGIN", store.count(9), 3);
        checks.same("back()", store.back(), 3);
        checks.same("noted behind BACK", store.count(9), 0);
        Checks.ask(store, "D0");
        checks.same("noted behind BACK", store.count(9), 0);
    }

    private static void rowsComeBack(Checks checks) {
        QueryStore store = Checks.storeWith(0, "1,1,1", "2,2,2", "3,3,3");
        Checks.ask(store, "I2(5,5,5)");
        store.begin();
        Checks.ask(store, "D0[a<3]");
        Checks.ask(store, "I0(2,9,9)");
        Checks.ask(store, "U0c=a+b");
        Checks.ask(store, "I1(4,4,4)");
        Checks.ask(store, "U2b=6");
        checks.sameText("rows before BACK", Checks.rows(store, 0), "2,9,11 3,3,6");
        store.back();
        checks.sameText("rows of table 0", Checks.rows(store, 0), "1,1,1 2,2,2 3,3,3");
        checks.sameText("rows of table 1", Checks.rows(store, 1), "");
        checks.sameText("rows of table 2", Checks.rows(store, 2), "5,5,5");
        Checks.ask(store, "U0b=8[a=1]");
        store.begin();
        Checks.ask(store, "U0b=9[a=1]");
        store.back();
        checks.sameText("rows as at the later BEGIN", Checks.rows(store, 0), "1,8,1 2,2,2 3,3,3");
    }

    private static void fullAndEmptyTablesComeBack(Checks checks) {
        for (int table = 0; table < 3; table++) {
            QueryStore store = new QueryStore();
            store.begin();
            Checks.fill(store, table, 20);
            checks.same("back() of 20 rows put in", store.back(), 20);
            checks.sameText("rows", Checks.rows(store, table), "");
            Checks.ask(store, "I" + table + "(0,0,0)");
            Checks.ask(store, "D" + table);
            Checks.keep(store, 0, "I" + table + "(?*7%20,?,?)");
            for (int i = 0; i < 20; i++) {
                store.run(0, i);
            }
            String rows = Checks.rows(store, table);
            store.begin();
            Checks.ask(store, "D" + table);
            for (int i = 19; i >= 0; i--) {
                store.run(0, i + 100);
            }
            checks.same("back() of 40 changes", store.back(), 40);
            checks.sameText("rows", Checks.rows(store, table), rows);
            checks.fails(store, "I" + table + "(99,0,0)", 0, Checks.STATE);
        }
    }

    private static void onlyRowsComeBack(Checks checks) {
        QueryStore store = Checks.filled(0, 3);
        store.begin();
        Checks.keep(store, 1, "S0a");
        Checks.ask(store, "D0[a<2]");
        store.run(1, 0);
        Checks.type(store, "S0");
        store.back();
        checks.sameText("the result stays", Checks.result(store), "2");
        checks.same("the text stays", store.count(1), 2);
        checks.same("statements run stay counted", store.count(10), 5);
        checks.same("the statement stays kept", store.run(1, 0), 3);
    }

    private static void begins(Checks checks) {
        QueryStore store = Checks.filled(0, 1);
        for (int times = 0; times < 3; times++) {
            store.begin();
            checks.same("begun", store.count(8), 1);
            store.end();
            checks.same("begun behind end()", store.count(8), 0);
            store.begin();
            checks.same("begun", store.count(8), 1);
            store.back();
            checks.same("begun behind back()", store.count(8), 0);
        }
    }

    private static void begunAlready(Checks checks) {
        QueryStore store = Checks.storeWith(0, "1,1,1");
        store.begin();
        checks.refused("begin() at once", store, Checks.STATE, () -> store.begin());
        Checks.ask(store, "I0(2,2,2)");
        Checks.ask(store, "S0a");
        checks.refused("begin() behind a change", store, Checks.STATE, () -> store.begin());
        checks.same("back()", store.back(), 1);
        checks.sameText("rows as at the first BEGIN", Checks.rows(store, 0), "1,1,1");
    }

    private static void endLeavesRows(Checks checks) {
        QueryStore store = Checks.storeWith(0, "1,1,1", "2,2,2");
        store.begin();
        Checks.ask(store, "D0[a=1]");
        Checks.ask(store, "I1(7,7,7)");
        store.end();
        checks.sameText("rows of table 0", Checks.rows(store, 0), "2,2,2");
        checks.sameText("rows of table 1", Checks.rows(store, 1), "7,7,7");
    }

    private static void endOfNothing(Checks checks) {
        QueryStore store = Checks.filled(0, 2);
        Checks.ask(store, "S0a");
        checks.refused("end() before begin()", store, Checks.STATE, () -> store.end());
        store.begin();
        Checks.ask(store, "S0b");
        store.end();
        checks.refused("end() again", store, Checks.STATE, () -> store.end());
        store.begin();
        store.back();
        checks.refused("end() behind back()", store, Checks.STATE, () -> store.end());
    }

    private static void endOfNoChanges(Checks checks) {
        QueryStore store = Checks.filled(0, 2);
        store.begin();
        checks.same("end() at once", store.end(), 0);
        store.begin();
        Checks.ask(store, "S0a");
        Checks.ask(store, "A0+a");
        Checks.ask(store, "D0[a=7]");
        Checks.ask(store, "U0b=1[a=7]");
        checks.fails(store, "I0(1,0,0)", 0, Checks.STATE);
        checks.fails(store, "U0b=1/(a-1)", 0, Checks.ARITHMETIC);
        checks.fails(store, "D0[1/(a-1)<0]", 0, Checks.ARITHMETIC);
        checks.same("noted of what changes nothing", store.count(9), 0);
        checks.same("end() behind what changes nothing", store.end(), 0);
    }

    private static void eachRowIsOne(Checks checks) {
        QueryStore store = Checks.filled(0, 2);
        store.begin();
        Checks.ask(store, "I0(5,5,5)");
        checks.same("noted, one put in", store.count(9), 1);
        Checks.ask(store, "U0b=?", 5);
        checks.same("noted, three changed", store.count(9), 4);
        Checks.ask(store, "U0b=b[a=5]");
        checks.same("noted, one that stays as it was", store.count(9), 5);
        Checks.ask(store, "D0[a=5]");
        checks.same("noted, one taken away", store.count(9), 6);
        Checks.ask(store, "D0");
        checks.same("noted, two taken away", store.count(9), 8);
        Checks.ask(store, "I2(5,5,5)");
        checks.same("end(), one put in elsewhere", store.end(), 9);
        Checks.fill(store, 0, 20);
        store.begin();
        Checks.ask(store, "U0c=1");
        Checks.ask(store, "U0c=2");
        Checks.ask(store, "D0");
        checks.same("end() of a full table", store.end(), 60);
    }

    private static void backOfNothing(Checks checks) {
        QueryStore store = Checks.filled(0, 2);
        Checks.ask(store, "S0a");
        checks.refused("back() before begin()", store, Checks.STATE, () -> store.back());
        store.begin();
        Checks.ask(store, "D0[a=0]");
        store.end();
        checks.refused("back() behind end()", store, Checks.STATE, () -> store.back());
        checks.sameText("rows", Checks.rows(store, 0), "1,2,-1");
        store.begin();
        Checks.ask(store, "D0");
        store.back();
        Checks.ask(store, "I0(7,7,7)");
        checks.refused("back() again", store, Checks.STATE, () -> store.back());
        checks.sameText("rows", Checks.rows(store, 0), "1,2,-1 7,7,7");
    }

    private static void backAnswers(Checks checks) {
        QueryStore store = Checks.filled(0, 2);
        store.begin();
        checks.same("back() at once", store.back(), 0);
        store.begin();
        Checks.ask(store, "I0(5,5,5)");
        Checks.ask(store, "U0b=b");
        Checks.ask(store, "D0[a>0]");
        checks.fails(store, "I0(0,0,0)", 0, Checks.STATE);
        checks.same("back()", store.back(), 6);
        store.begin();
        checks.same("back() of no changes", store.back(), 0);
    }
}
