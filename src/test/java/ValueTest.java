/** Promise 6: value, and what THE RESULT is behind each kind of call. */
public final class ValueTest {
    public static void main(String[] args) {
        Checks checks = new Checks();
        QueryStore store = Checks.storeWith(0, "1,2,3", "4,5,6");
        notThere(checks, store, 0, 0);
        Checks.ask(store, "S0a,b");
        checks.same("value(0, 0)", store.value(0, 0), 1);
        checks.same("value(0, 1)", store.value(0, 1), 2);
        checks.same("value(1, 0)", store.value(1, 0), 4);
        checks.same("value(1, 1)", store.value(1, 1), 5);
        int[] places = {0, 2, 2, 0, -1, 0, 0, -1, 0, 3, 39, 0, 40, 0, Integer.MAX_VALUE, 0,
            0, Integer.MAX_VALUE, Integer.MIN_VALUE, 0, 0, Integer.MIN_VALUE};
        for (int n = 0; n < places.length; n += 2) {
            notThere(checks, store, places[n], places[n + 1]);
        }
        Checks.ask(store, "S0c,b,a[a=4]");
        checks.same("value(0, 2)", store.value(0, 2), 4);
        notThere(checks, store, 1, 0);
        Checks.ask(store, "A0+a");
        checks.same("value(0, 0)", store.value(0, 0), 5);
        notThere(checks, store, 0, 1);
        staysFor(checks, store);
        goesFor(checks, store, "I0(9,9,9)");
        goesFor(checks, store, "D0[a=9]");
        goesFor(checks, store, "U0b=b");
        goesFor(checks, store, "S0a[a=0]");
        Checks.ask(store, "A0+a");
        checks.fails(store, "S0a/0", 0, Checks.ARITHMETIC);
        notThere(checks, store, 0, 0);
        checks.finish();
    }

    private static void notThere(Checks checks, QueryStore store, int i, int j) {
        checks.throwsThat("value(" + i + ", " + j + ")", Checks.NOT_THERE, () -> store.value(i, j));
    }

    private static void staysFor(Checks checks, QueryStore store) {
        Checks.keep(store, 0, "S0c");
        store.begin();
        store.end();
        store.begin();
        store.back();
        store.row(0, 0, 0);
        store.count(0);
        Checks.type(store, "S");
        checks.throwsThat("keep of no statement", Checks.BAD, () -> store.keep(1));
        checks.same("value(0, 0) stays", store.value(0, 0), 5);
    }

    private static void goesFor(Checks checks, QueryStore store, String text) {
        Checks.ask(store, "A0#a");
        Checks.ask(store, text);
        notThere(checks, store, 0, 0);
        checks.same("values in each row", store.count(7), 0);
    }
}
