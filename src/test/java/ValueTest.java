/** Promise 6: value. */
public final class ValueTest {
    private static final String WHERE = "Promise 6: value";

    public static void main(String[] args) {
        Checks checks = new Checks();
        checks.sentence(WHERE, "The value in row i of THE RESULT, place j (both from 0)", ValueTest::values);
        checks.sentence(WHERE, "not there: NoSuchElementException", ValueTest::notThere);
        checks.sentence(WHERE, "not there", ValueTest::noneInAnEmptyResult);
        checks.sentence(WHERE, "THE RESULT", ValueTest::staysForOtherCalls);
        checks.finish();
    }

    private static void values(Checks checks) {
        QueryStore store = Checks.filled(0, 20);
        Checks.fill(store, 1, 2);
        checks.same("40 rows", Checks.ask(store, "P01a,d,?", Checks.LEAST), 40);
        for (int i = 0; i < 40; i++) {
            checks.same("value(" + i + ", 0)", store.value(i, 0), i / 2);
            checks.same("value(" + i + ", 1)", store.value(i, 1), i % 2);
            checks.same("value(" + i + ", 2)", store.value(i, 2), Checks.LEAST);
        }
    }

    private static void notThere(Checks checks) {
        QueryStore store = Checks.filled(0, 20);
        Checks.fill(store, 1, 2);
        int[] sizes = {1, 2, 20, 40};
        String[] texts = {"S0a[a=0]", "S1a,b", "S0a,b,c", "P01a,d,e"};
        int[] widths = {1, 2, 3, 3};
        for (int n = 0; n < sizes.length; n++) {
            checks.same(texts[n], Checks.ask(store, texts[n]), sizes[n]);
            int[] rows = {-1, sizes[n], sizes[n] + 1, 40, 41, Checks.LEAST, Checks.GREATEST};
            for (int i : rows) {
                notThere(checks, store, i, 0);
            }
            int[] places = {-1, widths[n], 3, 4, Checks.LEAST, Checks.GREATEST};
            for (int j : places) {
                notThere(checks, store, 0, j);
                notThere(checks, store, sizes[n] - 1, j);
            }
            checks.same("the last value", store.value(sizes[n] - 1, widths[n] - 1), n == 2 ? -19 : n == 0 ? 0 : 2);
        }
    }

    private static void notThere(Checks checks, QueryStore store, int i, int j) {
        checks.throwsThat("value(" + i + ", " + j + ")", Checks.NOT_THERE, () -> store.value(i, j));
    }

    private static void noneInAnEmptyResult(Checks checks) {
        QueryStore store = new QueryStore();
        notThere(checks, store, 0, 0);
        Checks.fill(store, 0, 2);
        String[] texts = {"I0(9,9,9)", "D0[a=9]", "U0b=b", "S0a,b,c[a=9]", "P01a"};
        for (String text : texts) {
            checks.same("A0#a", Checks.ask(store, "A0#a"), 1);
            store.value(0, 0);
            Checks.ask(store, text);
            notThere(checks, store, 0, 0);
        }
        Checks.ask(store, "A0#a");
        checks.throwsThat("what throws", Checks.ARITHMETIC, () -> Checks.ask(store, "S0a/0"));
        notThere(checks, store, 0, 0);
    }

    private static void staysForOtherCalls(Checks checks) {
        QueryStore store = Checks.storeWith(0, "1,2,3", "4,5,6");
        store.begin();
        Checks.ask(store, "S0c,a^b");
        Checks.keep(store, 0, "S0c");
        store.end();
        store.begin();
        store.back();
        Checks.type(store, "S");
        checks.throwsThat("keep of no statement", Checks.BAD, () -> store.keep(1));
        checks.throwsThat("row that isn't there", Checks.NOT_THERE, () -> store.row(0, 2, 0));
        checks.throwsThat("value that isn't there", Checks.NOT_THERE, () -> store.value(2, 0));
        checks.sameText("the result", Checks.result(store), "3,1 6,4");
    }
}
