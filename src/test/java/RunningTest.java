/** Terms: RUNNING. */
public final class RunningTest {
    private static final String WHERE = "Terms, RUNNING";

    public static void main(String[] args) {
        Checks checks = new Checks();
        checks.sentence(WHERE, "everything is worked out before anything is changed: what throws changes nothing",
                RunningTest::whatThrowsChangesNothing);
        checks.sentence(WHERE, "but THE RESULT, which is empty then", RunningTest::resultOfWhatThrows);
        checks.sentence(WHERE, "For I: there is a row with that KEY: IllegalStateException", RunningTest::keyIsThere);
        checks.sentence(WHERE, "then: the table has 20: the same", RunningTest::tableIsFull);
        checks.sentence(WHERE, "THE RESULT would be above 40 rows: UnsupportedOperationException",
                RunningTest::aboveFortyRows);
        checks.sentence(WHERE, "as soon as that comes up while rows are gone through", RunningTest::asSoonAsItComesUp);
        checks.sentence(WHERE, "behind the values of that row", RunningTest::behindTheValues);
        checks.sentence(WHERE, "I, D and U have an empty RESULT", RunningTest::emptyResults);
        checks.finish();
    }

    private static void whatThrowsChangesNothing(Checks checks) {
        QueryStore store = Checks.filled(0, 20);
        Checks.fill(store, 1, 3);
        store.begin();
        Checks.ask(store, "U1b=5");
        String rows = Checks.rows(store, 0) + "/" + Checks.rows(store, 1);
        String[] texts = {
            "D0[1/(a-19)<9]", "D0[1/a<9]", "D0[a<19|1/0=0]", "U0b=1/(a-19)", "U0c=1%a", "U0b=9[1/(a-19)<9]",
            "U0b=7[a<19|1/0=0]", "I1(1/0,8,8)", "I1(8,1/0,8)", "I1(8,8,1/0)", "I1(8,8,8%0)", "S01/(a-19)",
            "A0+1/(a-19)", "P01a/(d-2)", "B01>a/(d-2)",
        };
        for (String text : texts) {
            checks.fails(store, text, 0, Checks.ARITHMETIC);
            checks.same("noted behind " + text, store.count(9), 3);
            checks.same("rows behind " + text, store.count(3) * 100 + store.count(4), 2003);
        }
        checks.fails(store, "I1(2,8,8)", 0, Checks.STATE);
        checks.fails(store, "I0(99,8,8)", 0, Checks.STATE);
        checks.fails(store, "A0<a[a>19]", 0, Checks.NOT_THERE);
        checks.fails(store, "P01a", 0, Checks.TOO_MANY);
        checks.same("noted", store.count(9), 3);
        checks.sameText("rows", Checks.rows(store, 0) + "/" + Checks.rows(store, 1), rows);
        checks.same("back()", store.back(), 3);
    }

    private static void resultOfWhatThrows(Checks checks) {
        QueryStore store = Checks.filled(0, 20);
        String[] texts = {"I0(19,0,0)", "I0(99,0,0)", "A0>a[a>19]", "B00<a[a>19]", "P00a", "I0(99,0,1/0)", "D0[1/a=0]",
            "U0b=1/a", "S0a,1/(a-19)", "S0a[1/(a-19)<9]^b", "P00a[1/(a-19)=9]", "A0#1/(a-19)"};
        for (String text : texts) {
            Checks.ask(store, "S0a,b");
            checks.same("rows before " + text, store.count(6), 20);
            try {
                Checks.ask(store, text);
                checks.isTrue(text + " throws", false);
            } catch (RuntimeException e) {
                checks.same("rows behind " + text, store.count(6), 0);
            }
            checks.same("values behind " + text, store.count(7), 0);
            checks.throwsThat("value(0, 0) behind " + text, Checks.NOT_THERE, () -> store.value(0, 0));
        }
    }

    private static void keyIsThere(Checks checks) {
        QueryStore store = Checks.storeWith(0, "5,1,1", "7,2,2");
        checks.fails(store, "I0(5,1,1)", 0, Checks.STATE);
        checks.fails(store, "I0(?,3,3)", 7, Checks.STATE);
        checks.fails(store, "I0(2+3,3,3)", 0, Checks.STATE);
        checks.fails(store, "I0(5,3,1/0)", 0, Checks.ARITHMETIC);
        checks.gives(store, "I0(6,1,1)", 0, 1, "");
        checks.sameText("rows", Checks.rows(store, 0), "5,1,1 6,1,1 7,2,2");
    }

    private static void tableIsFull(Checks checks) {
        QueryStore store = Checks.filled(0, 19);
        Checks.ask(store, "I0(30,0,0)");
        checks.fails(store, "I0(20,0,0)", 0, Checks.STATE);
        checks.fails(store, "I0(31,0,0)", 0, Checks.STATE);
        checks.fails(store, "I0(-1,0,0)", 0, Checks.STATE);
        checks.fails(store, "I0(30,0,0)", 0, Checks.STATE);
        checks.fails(store, "I0(31,0,0%0)", 0, Checks.ARITHMETIC);
        checks.same("rows", store.count(3), 20);
        checks.gives(store, "I1(31,0,0)", 0, 1, "");
        checks.gives(store, "D0[a=0]", 0, 1, "");
        checks.gives(store, "I0(31,0,0)", 0, 1, "");
        checks.fails(store, "I0(0,0,0)", 0, Checks.STATE);
    }

    private static void aboveFortyRows(Checks checks) {
        QueryStore store = Checks.filled(0, 20);
        Checks.fill(store, 1, 2);
        checks.same("40 rows", Checks.ask(store, "P01a,d"), 40);
        checks.same("the last of them", store.value(39, 0) * 10 + store.value(39, 1), 191);
        checks.same("40 rows", Checks.ask(store, "P10a,d^f"), 40);
        checks.gives(store, "I1(2,0,0)", 0, 1, "");
        checks.fails(store, "P01a,d", 0, Checks.TOO_MANY);
        checks.fails(store, "P00a", 0, Checks.TOO_MANY);
        checks.same("40 of 60", Checks.ask(store, "P01a[d>0]"), 40);
        checks.fails(store, "P01a[d>0|a=19]", 0, Checks.TOO_MANY);
        checks.fails(store, "P01a[d>0|a=0]^c", 0, Checks.TOO_MANY);
        checks.same("40 of 400", Checks.ask(store, "P00a[d>17]^d"), 40);
        checks.fails(store, "P00a[d>17|a=3&d=3]", 0, Checks.TOO_MANY);
        checks.gives(store, "B00#a", 0, 1, "400");
    }

    // The pairs of P01 have the numbers a*3+d; the one that is too many is number 40.
    private static QueryStore withSixtyPairs() {
        QueryStore store = Checks.filled(0, 20);
        Checks.fill(store, 1, 3);
        return store;
    }

    private static void asSoonAsItComesUp(Checks checks) {
        QueryStore store = withSixtyPairs();
        checks.fails(store, "P01a,1/(a*3+d-41)", 0, Checks.TOO_MANY);
        checks.fails(store, "P01a[1/(a*3+d-41)<2]", 0, Checks.TOO_MANY);
        checks.fails(store, "P01a[1/(a*3+d-59)<2]", 0, Checks.TOO_MANY);
        checks.fails(store, "P01a,1/(a*3+d-59)^c", 0, Checks.TOO_MANY);
        checks.fails(store, "P01a,1/(a*3+d-39)", 0, Checks.ARITHMETIC);
        checks.fails(store, "P01a[1/(a*3+d-39)<2]", 0, Checks.ARITHMETIC);
        checks.fails(store, "P01a[1/(a*3+d)<2]", 0, Checks.ARITHMETIC);
        checks.fails(store, "P01a[a+d>0&1/(a*3+d-41)<2]", 0, Checks.ARITHMETIC);
        checks.fails(store, "P01a[a+d>0&1/(a*3+d-42)<2]", 0, Checks.TOO_MANY);
        checks.fails(store, "P01a[a*3+d<40|1/(a*3+d-59)>0]", 0, Checks.ARITHMETIC);
    }

    private static void behindTheValues(Checks checks) {
        QueryStore store = withSixtyPairs();
        checks.fails(store, "P011/(a*3+d-40)", 0, Checks.ARITHMETIC);
        checks.fails(store, "P01a,1/(a*3+d-40)", 0, Checks.ARITHMETIC);
        checks.fails(store, "P01a,d,1%(a*3+d-40)^f", 0, Checks.ARITHMETIC);
        checks.fails(store, "P01a[1/(a*3+d-40)<2]", 0, Checks.ARITHMETIC);
        checks.fails(store, "P01a,1/(a*3+d-41)[a+d>0]", 0, Checks.ARITHMETIC);
        checks.fails(store, "P01a,1/(a*3+d-42)[a+d>0]", 0, Checks.TOO_MANY);
    }

    private static void emptyResults(Checks checks) {
        QueryStore store = Checks.filled(0, 3);
        String[] texts = {"I0(9,9,9)", "D0[a=9]", "D0[a=8]", "U0b=1", "U0c=1[a=8]", "U1b=1", "D1", "D0"};
        for (String text : texts) {
            checks.same("A0#1", Checks.ask(store, "A0#1"), 1);
            Checks.ask(store, text);
            checks.same("rows behind " + text, store.count(6), 0);
            checks.same("values behind " + text, store.count(7), 0);
            checks.throwsThat("value(0, 0) behind " + text, Checks.NOT_THERE, () -> store.value(0, 0));
        }
    }
}
