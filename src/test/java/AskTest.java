/** Promise 5: ask is keep and run, but nothing is kept. */
public final class AskTest {
    public static void main(String[] args) {
        Checks checks = new Checks();
        QueryStore store = new QueryStore();
        Checks.type(store, "I0(?,?*2,");
        Checks.type(store, "?-1)");
        checks.same("ask", store.ask(6), 1);
        checks.sameText("rows", Checks.rows(store, 0), "6,12,5");
        checks.same("kept", store.count(2), 0);
        checks.same("length", store.count(1), 0);
        checks.throwsThat("run(0)", Checks.NOT_THERE, () -> store.run(0, 0));
        checks.throwsThat("ask of the same", Checks.STATE, () -> Checks.ask(store, "I0(?,?*2,?-1)", 6));
        checks.same("length behind what throws", store.count(1), 0);
        checks.throwsThat("ask of the empty text", Checks.BAD, () -> store.ask(0));
        checks.same("place", store.count(0), 0);
        checks.throwsThat("ask of no statement", Checks.BAD, () -> Checks.ask(store, "S0a,"));
        checks.same("place", store.count(0), 4);
        checks.same("length", store.count(1), 0);
        checks.fails(store, "S0a/?", 0, Checks.ARITHMETIC);
        checks.fails(store, "A0>a[a<?]", 6, Checks.NOT_THERE);
        checks.gives(store, "S0a/?", 2, 1, "3");
        Checks.keep(store, 2, "S0b");
        checks.gives(store, "S0c", 0, 1, "5");
        checks.same("kept", store.count(2), 1);
        store.run(2, 0);
        checks.sameText("the kept one", Checks.result(store), "12");
        checks.finish();
    }
}
