/** Promise 5: ask. */
public final class AskTest {
    private static final String WHERE = "Promise 5: ask";

    public static void main(String[] args) {
        Checks checks = new Checks();
        checks.sentence(WHERE, "As keep", AskTest::readsTheText);
        checks.sentence(WHERE, "throws IllegalArgumentException", AskTest::textsRefused);
        checks.sentence(WHERE, "and run", AskTest::runsIt);
        checks.sentence(WHERE, "java.util.NoSuchElementException, ArithmeticException, "
                + "IllegalStateException, UnsupportedOperationException", AskTest::runsRefused);
        checks.sentence(WHERE, "but nothing is kept", AskTest::nothingIsKept);
        checks.finish();
    }

    private static void readsTheText(Checks checks) {
        QueryStore store = new QueryStore();
        Checks.type(store, "I0(?,?*2,");
        Checks.type(store, "?-1)");
        checks.same("ask", store.ask(6), 1);
        checks.sameText("rows", Checks.rows(store, 0), "6,12,5");
        checks.same("length behind ask", store.count(1), 0);
        checks.throwsThat("ask of what is there", Checks.STATE, () -> Checks.ask(store, "I0(?,0,0)", 6));
        checks.same("length behind what throws", store.count(1), 0);
        checks.same("place behind statements", store.count(0), -1);
    }

    private static void textsRefused(Checks checks) {
        QueryStore store = Checks.storeWith(0, "1,2,3");
        checks.throwsThat("ask of the empty text", Checks.BAD, () -> store.ask(0));
        checks.same("its place", store.count(0), 0);
        checks.throwsThat("ask of D0[1=1]]", Checks.BAD, () -> Checks.ask(store, "D0[1=1]]"));
        checks.same("its place", store.count(0), 7);
        checks.same("length behind no statement", store.count(1), 0);
        checks.sameText("rows", Checks.rows(store, 0), "1,2,3");
    }

    private static void runsIt(Checks checks) {
        QueryStore store = Checks.storeWith(0, "1,2,3", "4,5,6");
        int[] parameters = {0, 1, -1, Checks.LEAST, Checks.GREATEST};
        for (int parameter : parameters) {
            checks.gives(store, "S0?,a[a<2]", parameter, 1, parameter + ",1");
        }
        checks.gives(store, "U0b=?", -8, 2, "");
        checks.gives(store, "D0[a=?]", 4, 1, "");
        checks.gives(store, "A0+b", 0, 1, "-8");
        checks.gives(store, "B01#b", 0, 1, "0");
    }

    private static void runsRefused(Checks checks) {
        QueryStore store = Checks.filled(0, 7);
        checks.fails(store, "A0>a[a<?]", 0, Checks.NOT_THERE);
        checks.fails(store, "S0a/?", 0, Checks.ARITHMETIC);
        checks.fails(store, "I0(?,0,0)", 6, Checks.STATE);
        checks.fails(store, "P00a", 0, Checks.TOO_MANY);
        checks.same("run otherwise", store.count(11), 4);
        checks.same("rows", store.count(3), 7);
    }

    private static void nothingIsKept(Checks checks) {
        QueryStore store = Checks.storeWith(0, "1,2,3");
        checks.same("statements kept", store.count(2), 0);
        for (int k = 0; k < 4; k++) {
            int number = k;
            checks.throwsThat("run(" + k + ")", Checks.NOT_THERE, () -> store.run(number, 0));
        }
        for (int k = 0; k < 4; k++) {
            Checks.keep(store, k, "S0a+" + k);
            checks.gives(store, "S0c", 0, 1, "3");
        }
        checks.throwsThat("ask of no statement", Checks.BAD, () -> Checks.ask(store, "S0a+"));
        checks.same("statements kept", store.count(2), 4);
        for (int k = 0; k < 4; k++) {
            store.run(k, 0);
            checks.same("value of statement " + k, store.value(0, 0), 1 + k);
        }
    }
}
