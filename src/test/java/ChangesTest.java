/** Promises 8 to 10: begin, end and back. */
public final class ChangesTest {
    public static void main(String[] args) {
        Checks checks = new Checks();
        nothingBegun(checks);
        begunAlready(checks);
        endKeepsChanges(checks);
        backTakesThemBack(checks);
        whatCounts(checks);
        fullTables(checks);
        checks.finish();
    }

    private static void nothingBegun(Checks checks) {
        QueryStore store = Checks.storeWith(0, "1,1,1");
        checks.throwsThat("end()", Checks.STATE, () -> store.end());
        checks.throwsThat("back()", Checks.STATE, () -> store.back());
        checks.same("changes before begin aren't noted", store.count(9), 0);
        checks.sameText("rows", Checks.rows(store, 0), "1,1,1");
        store.begin();
        checks.same("end()", store.end(), 0);
        checks.throwsThat("end() again", Checks.STATE, () -> store.end());
        checks.throwsThat("back() behind end()", Checks.STATE, () -> store.back());
        store.begin();
        checks.same("back()", store.back(), 0);
        checks.throwsThat("end() behind back()", Checks.STATE, () -> store.end());
        checks.throwsThat("back() again", Checks.STATE, () -> store.back());
        checks.sameText("rows", Checks.rows(store, 0), "1,1,1");
    }

    private static void begunAlready(Checks checks) {
        QueryStore store = Checks.storeWith(0, "1,1,1");
        store.begin();
        Checks.ask(store, "I0(2,2,2)");
        checks.throwsThat("begin() again", Checks.STATE, () -> store.begin());
        checks.same("begun", store.count(8), 1);
        checks.same("noted", store.count(9), 1);
        checks.same("back()", store.back(), 1);
        checks.sameText("rows as at the first begin", Checks.rows(store, 0), "1,1,1");
        checks.same("begun", store.count(8), 0);
        store.begin();
        checks.same("begun", store.count(8), 1);
    }

    private static void endKeepsChanges(Checks checks) {
        QueryStore store = Checks.storeWith(0, "1,1,1", "2,2,2");
        store.begin();
        Checks.ask(store, "D0[a=1]");
        Checks.ask(store, "I1(7,7,7)");
        checks.same("end()", store.end(), 2);
        checks.sameText("rows", Checks.rows(store, 0), "2,2,2");
        checks.sameText("rows", Checks.rows(store, 1), "7,7,7");
        checks.same("noted behind end", store.count(9), 0);
        Checks.ask(store, "I1(8,8,8)");
        checks.same("noted without begin", store.count(9), 0);
        store.begin();
        checks.same("noted at begin", store.count(9), 0);
        Checks.ask(store, "U1b=0");
        checks.same("back()", store.back(), 2);
        checks.sameText("rows as at the later begin", Checks.rows(store, 1), "7,7,7 8,8,8");
        checks.same("noted behind back", store.count(9), 0);
    }

    private static void backTakesThemBack(Checks checks) {
        QueryStore store = Checks.storeWith(0, "1,1,1", "2,2,2", "3,3,3");
        Checks.ask(store, "I2(5,5,5)");
        store.begin();
        checks.same("D", Checks.ask(store, "D0[a<3]"), 2);
        checks.same("I", Checks.ask(store, "I0(2,9,9)"), 1);
        checks.same("U", Checks.ask(store, "U0c=a+b"), 2);
        checks.same("I", Checks.ask(store, "I1(4,4,4)"), 1);
        checks.same("U", Checks.ask(store, "U2b=6"), 1);
        Checks.keep(store, 1, "S0a,b,c");
        store.run(1, 0);
        checks.sameText("rows before back", Checks.rows(store, 0), "2,9,11 3,3,6");
        checks.same("noted", store.count(9), 7);
        checks.same("back()", store.back(), 7);
        checks.sameText("rows", Checks.rows(store, 0), "1,1,1 2,2,2 3,3,3");
        checks.sameText("rows", Checks.rows(store, 1), "");
        checks.sameText("rows", Checks.rows(store, 2), "5,5,5");
        checks.sameText("the result stays", Checks.result(store), "2,9,11 3,3,6");
        checks.same("the statement stays", store.run(1, 0), 3);
        checks.same("statements run stay counted", store.count(10), 11);
    }

    private static void whatCounts(Checks checks) {
        QueryStore store = Checks.storeWith(0, "1,1,1", "2,2,2");
        store.begin();
        Checks.ask(store, "U0b=b");
        checks.same("rows that stay as they were", store.count(9), 2);
        Checks.ask(store, "S0a");
        Checks.ask(store, "A0+a");
        Checks.ask(store, "D0[a=7]");
        Checks.ask(store, "U0b=1[a=7]");
        checks.same("nothing changed", store.count(9), 2);
        checks.fails(store, "I0(1,0,0)", 0, Checks.STATE);
        checks.fails(store, "U0b=1/(a-2)", 0, Checks.ARITHMETIC);
        checks.fails(store, "D0[1/(a-2)<0]", 0, Checks.ARITHMETIC);
        checks.same("what throws changes nothing", store.count(9), 2);
        Checks.ask(store, "I0(3,3,3)");
        Checks.ask(store, "D0[a=3]");
        checks.same("a row that came and went", store.count(9), 4);
        checks.same("end()", store.end(), 4);
        checks.sameText("rows", Checks.rows(store, 0), "1,1,1 2,2,2");
    }

    private static void fullTables(Checks checks) {
        QueryStore store = new QueryStore();
        Checks.keep(store, 0, "I0(?*7%20,?,?)");
        for (int i = 0; i < 20; i++) {
            store.run(0, i);
        }
        String rows = Checks.rows(store, 0);
        store.begin();
        checks.same("D", Checks.ask(store, "D0[a%4>0]"), 15);
        for (int i = 0; i < 20; i += 3) {
            Checks.ask(store, "I0(1000+?,0,0)", i);
        }
        checks.same("D", Checks.ask(store, "D0"), 12);
        for (int i = 19; i >= 0; i--) {
            store.run(0, i);
        }
        checks.same("noted", store.count(9), 54);
        checks.same("back()", store.back(), 54);
        checks.sameText("rows", Checks.rows(store, 0), rows);
        emptied(checks);
    }

    private static void emptied(Checks checks) {
        QueryStore store = new QueryStore();
        Checks.keep(store, 0, "I0(?,0,0)");
        store.begin();
        for (int i = 0; i < 20; i++) {
            store.run(0, i);
        }
        checks.same("back()", store.back(), 20);
        checks.sameText("rows", Checks.rows(store, 0), "");
        for (int i = 6; i > 0; i--) {
            store.run(0, i);
        }
        checks.sameText("rows", Checks.rows(store, 0), "1,0,0 2,0,0 3,0,0 4,0,0 5,0,0 6,0,0");
        store.begin();
        Checks.ask(store, "D0");
        checks.sameText("rows", Checks.rows(store, 0), "");
        checks.same("back()", store.back(), 6);
        checks.sameText("rows", Checks.rows(store, 0), "1,0,0 2,0,0 3,0,0 4,0,0 5,0,0 6,0,0");
    }
}
