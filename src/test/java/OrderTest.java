/** Promise 12: what is no run leaves THE RESULT and the counts of runs; bad comes first. */
public final class OrderTest {
    public static void main(String[] args) {
        Checks checks = new Checks();
        QueryStore store = Checks.storeWith(0, "1,2,3", "4,5,6");
        Checks.ask(store, "S0a,c");
        checks.throwsThat("division", Checks.ARITHMETIC, () -> Checks.ask(store, "S0a/0"));
        Checks.ask(store, "S0a,c");
        checks.throwsThat("run of none", Checks.NOT_THERE, () -> store.run(0, 0));
        looksUntouched(checks, store);
        checks.throwsThat("run of no number", Checks.BAD, () -> store.run(4, 0));
        looksUntouched(checks, store);
        checks.throwsThat("run of no number", Checks.BAD, () -> store.run(-1, 0));
        looksUntouched(checks, store);
        checks.throwsThat("ask of nothing", Checks.BAD, () -> store.ask(0));
        looksUntouched(checks, store);
        checks.throwsThat("ask of no statement", Checks.BAD, () -> Checks.ask(store, "S0a/0["));
        looksUntouched(checks, store);
        checks.throwsThat("keep of no statement", Checks.BAD, () -> Checks.keep(store, 1, "S0a/0["));
        looksUntouched(checks, store);
        checks.throwsThat("run of what wasn't kept", Checks.NOT_THERE, () -> store.run(1, 0));
        looksUntouched(checks, store);
        Checks.keep(store, 1, "S0a/?");
        looksUntouched(checks, store);
        badComesFirst(checks, store);
        checks.finish();
    }

    private static void looksUntouched(Checks checks, QueryStore store) {
        checks.sameText("the result", Checks.result(store), "1,3 4,6");
        checks.same("run to the end", store.count(10), 4);
        checks.same("run otherwise", store.count(11), 1);
    }

    private static void badComesFirst(Checks checks, QueryStore store) {
        checks.throwsThat("row of no table and no row", Checks.BAD, () -> store.row(3, 99, 0));
        checks.throwsThat("row of no column and no row", Checks.BAD, () -> store.row(0, 99, 3));
        for (int i = 0; i < 6; i++) {
            store.type(Checks.packed("S0S0S0S0"));
        }
        checks.throwsThat("bad byte and full text", Checks.BAD, () -> store.type(Checks.packed("a\u007f")));
        checks.throwsThat("full text", Checks.STATE, () -> store.type(Checks.packed("a")));
        checks.same("length", store.count(1), 48);
    }
}
