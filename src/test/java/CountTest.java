/** Promise 11: count. */
public final class CountTest {
    public static void main(String[] args) {
        Checks checks = new Checks();
        texts(checks);
        rows(checks);
        statements(checks);
        others(checks);
        checks.finish();
    }

    private static void texts(Checks checks) {
        QueryStore store = new QueryStore();
        Checks.type(store, "D0[1<2");
        checks.same("length", store.count(1), 6);
        checks.same("place before reading", store.count(0), -1);
        checks.throwsThat("keep", Checks.BAD, () -> store.keep(0));
        checks.same("place", store.count(0), 6);
        checks.same("length", store.count(1), 0);
        Checks.ask(store, "D0[1<2]");
        checks.same("place stays for a statement", store.count(0), 6);
        checks.throwsThat("ask", Checks.BAD, () -> Checks.ask(store, "U0a"));
        checks.same("place of the latest", store.count(0), 2);
        checks.same("statements kept", store.count(2), 0);
        Checks.keep(store, 3, "D0");
        checks.same("statements kept", store.count(2), 1);
        Checks.keep(store, 3, "D1");
        checks.same("statements kept", store.count(2), 1);
        Checks.keep(store, 0, "D1");
        checks.same("statements kept", store.count(2), 2);
    }

    private static void rows(Checks checks) {
        QueryStore store = Checks.storeWith(1, "1,1,1", "2,2,2");
        Checks.ask(store, "I2(1,1,1)");
        checks.same("rows of table 0", store.count(3), 0);
        checks.same("rows of table 1", store.count(4), 2);
        checks.same("rows of table 2", store.count(5), 1);
        Checks.ask(store, "S1a,b,c");
        checks.same("rows of the result", store.count(6), 2);
        checks.same("values in each", store.count(7), 3);
        Checks.ask(store, "P12a,f");
        checks.same("values in each", store.count(7), 2);
        Checks.ask(store, "A0+b");
        checks.same("rows of the result", store.count(6), 1);
        checks.same("values in each", store.count(7), 1);
        Checks.ask(store, "S0a,b,c");
        checks.same("rows of the result", store.count(6), 0);
        checks.same("values in each of none", store.count(7), 0);
        Checks.ask(store, "D1[a=1]");
        checks.same("rows of table 1", store.count(4), 1);
        store.begin();
        checks.same("begun", store.count(8), 1);
        Checks.ask(store, "U1b=7");
        checks.same("noted", store.count(9), 1);
        store.end();
        checks.same("begun", store.count(8), 0);
        checks.same("noted", store.count(9), 0);
    }

    private static void statements(Checks checks) {
        QueryStore store = new QueryStore();
        Checks.ask(store, "I0(0,0,0)");
        checks.same("run to the end", store.count(10), 1);
        checks.throwsThat("ISE", Checks.STATE, () -> Checks.ask(store, "I0(0,0,0)"));
        checks.throwsThat("division", Checks.ARITHMETIC, () -> Checks.ask(store, "S0a/a"));
        checks.throwsThat("least of none", Checks.NOT_THERE, () -> Checks.ask(store, "A1<a"));
        checks.same("run to the end", store.count(10), 1);
        checks.same("run otherwise", store.count(11), 3);
        Checks.keep(store, 0, "D1[a=?]");
        checks.same("a keep runs nothing", store.count(10) + store.count(11), 4);
        store.run(0, 3);
        checks.same("run to the end", store.count(10), 2);
        Checks.keep(store, 1, "A0+1/?");
        checks.throwsThat("division", Checks.ARITHMETIC, () -> store.run(1, 0));
        checks.same("run otherwise", store.count(11), 4);
        store.run(1, 1);
        checks.same("run to the end", store.count(10), 3);
        Checks.keep(store, 2, "I1(?,0,0)");
        for (int i = 0; i < 7; i++) {
            store.run(2, i);
        }
        checks.throwsThat("49 rows", Checks.TOO_MANY, () -> Checks.ask(store, "P11a"));
        checks.same("run to the end", store.count(10), 10);
        checks.same("run otherwise", store.count(11), 5);
    }

    private static void others(Checks checks) {
        QueryStore store = Checks.storeWith(0, "1,1,1");
        int[] none = {-1, 12, 13, 100, Integer.MIN_VALUE, Integer.MAX_VALUE};
        for (int what : none) {
            checks.same("count(" + what + ")", store.count(what), -1);
        }
    }
}
