/** Promise 12: order and limits. */
public final class OrderTest {
    private static final String WHERE = "Promise 12: Order and limits";

    public static void main(String[] args) {
        Checks checks = new Checks();
        checks.sentence(WHERE, "A run of a number with no STATEMENT", OrderTest::runOfNone);
        checks.sentence(WHERE, "an ask of a text that is none", OrderTest::askOfNone);
        checks.finish();
    }

    private static void runOfNone(Checks checks) {
        QueryStore store = looked();
        for (int k = 0; k < 4; k++) {
            int number = k;
            checks.throwsThat("run(" + k + ")", Checks.NOT_THERE, () -> store.run(number, 0));
            looksUntouched(checks, store);
        }
        int[] bad = {-1, 4};
        for (int k : bad) {
            checks.throwsThat("run(" + k + ")", Checks.BAD, () -> store.run(k, 0));
            looksUntouched(checks, store);
        }
    }

    private static void askOfNone(Checks checks) {
        QueryStore store = looked();
        checks.throwsThat("ask of the empty text", Checks.BAD, () -> store.ask(0));
        looksUntouched(checks, store);
        checks.throwsThat("ask of S0a/0[", Checks.BAD, () -> Checks.ask(store, "S0a/0["));
        looksUntouched(checks, store);
        checks.throwsThat("ask of D0;", Checks.BAD, () -> Checks.ask(store, "D0;"));
        looksUntouched(checks, store);
        checks.throwsThat("keep of D0;", Checks.BAD, () -> Checks.keep(store, 1, "D0;"));
        looksUntouched(checks, store);
    }

    /** A store with a result, four statements run to the end and one run otherwise. */
    private static QueryStore looked() {
        QueryStore store = Checks.storeWith(0, "1,2,3", "4,5,6");
        Checks.ask(store, "S0a");
        try {
            Checks.ask(store, "S0a/0");
        } catch (ArithmeticException e) {
            Checks.ask(store, "S0a,c");
        }
        return store;
    }

    private static void looksUntouched(Checks checks, QueryStore store) {
        checks.sameText("the result", Checks.result(store), "1,3 4,6");
        checks.same("run to the end", store.count(10), 4);
        checks.same("run otherwise", store.count(11), 1);
    }
}
