/** Promise 4: run. */
public final class RunTest {
    private static final String WHERE = "Promise 4: run";

    public static void main(String[] args) {
        Checks checks = new Checks();
        checks.sentence(WHERE, "RUNS STATEMENT k with the parameter", RunTest::parameter);
        checks.sentence(WHERE, "there is none: NoSuchElementException", RunTest::noneKept);
        checks.sentence(WHERE, "throws IllegalArgumentException", RunTest::numbersOutOfRange);
        checks.sentence(WHERE, "Answers how many rows it put in", RunTest::rowsPutIn);
        checks.sentence(WHERE, "took away", RunTest::rowsTakenAway);
        checks.sentence(WHERE, "changed (also if they stay as they were)", RunTest::rowsChanged);
        checks.sentence(WHERE, "or how many THE RESULT has", RunTest::rowsOfTheResult);
        checks.finish();
    }

    private static void parameter(Checks checks) {
        QueryStore store = new QueryStore();
        checks.same("keep", Checks.keep(store, 1, "I1(?,?+?,-?)"), 4);
        int[] parameters = {7, -3, 0, Checks.LEAST, Checks.GREATEST};
        for (int parameter : parameters) {
            checks.same("run(1, " + parameter + ")", store.run(1, parameter), 1);
        }
        checks.sameText("rows", Checks.rows(store, 1), "-2147483648,0,-2147483648 -3,-6,3 0,0,0 7,14,-7 "
                + "2147483647,-2,-2147483647");
        checks.throwsThat("run of the same", Checks.STATE, () -> store.run(1, 7));
        Checks.type(store, "S0");
        store.run(1, 8);
        checks.same("length of the text, which a run leaves", store.count(1), 2);
    }

    private static void noneKept(Checks checks) {
        QueryStore store = Checks.storeWith(0, "1,2,3");
        for (int k = 0; k < 4; k++) {
            noneAt(checks, store, k);
        }
        Checks.keep(store, 1, "D0");
        for (int k = 0; k < 4; k++) {
            if (k != 1) {
                noneAt(checks, store, k);
            }
        }
        checks.throwsThat("keep", Checks.BAD, () -> Checks.keep(store, 2, "D"));
        noneAt(checks, store, 2);
        Checks.ask(store, "S0a");
        noneAt(checks, store, 0);
        checks.same("run of the one that is there", store.run(1, 0), 1);
    }

    private static void noneAt(Checks checks, QueryStore store, int k) {
        checks.refused("run(" + k + ")", store, Checks.NOT_THERE, () -> store.run(k, 0));
    }

    private static void numbersOutOfRange(Checks checks) {
        QueryStore store = Checks.storeWith(0, "1,2,3");
        for (int k = 0; k < 4; k++) {
            Checks.keep(store, k, "S0a+" + k);
        }
        int[] bad = {-1, 4, 5, Checks.LEAST, Checks.GREATEST};
        for (int k : bad) {
            checks.refused("run(" + k + ")", store, Checks.BAD, () -> store.run(k, 0));
        }
        checks.same("run(0)", store.run(0, 0), 1);
        checks.same("run(3)", store.run(3, 0), 1);
    }

    private static void rowsPutIn(Checks checks) {
        QueryStore store = new QueryStore();
        Checks.keep(store, 0, "I0(?,0,0)");
        for (int key = 0; key < 20; key++) {
            checks.same("run of I", store.run(0, key), 1);
            checks.same("rows", store.count(3), key + 1);
        }
    }

    private static void rowsTakenAway(Checks checks) {
        QueryStore store = Checks.filled(0, 20);
        Checks.keep(store, 0, "D0[a<?]");
        checks.same("run of D, none meets it", store.run(0, 0), 0);
        checks.same("run of D, one meets it", store.run(0, 1), 1);
        checks.same("run of D, that row is gone", store.run(0, 1), 0);
        checks.same("run of D, all the others meet it", store.run(0, 20), 19);
        checks.same("run of D in an empty table", store.run(0, 20), 0);
        Checks.keep(store, 1, "D1");
        checks.same("run of D without C in an empty table", store.run(1, 0), 0);
        Checks.fill(store, 1, 20);
        checks.same("run of D without C in a full table", store.run(1, 0), 20);
    }

    private static void rowsChanged(Checks checks) {
        QueryStore store = Checks.filled(0, 20);
        Checks.keep(store, 0, "U0b=b[a<?]");
        Checks.keep(store, 1, "U1c=7");
        String rows = Checks.rows(store, 0);
        checks.same("run of U, none meets it", store.run(0, 0), 0);
        checks.same("run of U, one row stays as it was", store.run(0, 1), 1);
        checks.same("run of U, all rows stay as they were", store.run(0, 20), 20);
        checks.sameText("rows", Checks.rows(store, 0), rows);
        checks.same("run of U in an empty table", store.run(1, 0), 0);
        Checks.fill(store, 1, 2);
        checks.same("run of U without C", store.run(1, 0), 2);
        checks.same("run of U again", store.run(1, 0), 2);
    }

    private static void rowsOfTheResult(Checks checks) {
        QueryStore store = Checks.filled(0, 20);
        Checks.keep(store, 0, "S0a[a<?]");
        checks.same("run of S, none", store.run(0, 0), 0);
        checks.same("run of S, one", store.run(0, 1), 1);
        checks.same("run of S, all", store.run(0, 20), 20);
        Checks.keep(store, 1, "P00a[d<?]");
        checks.same("run of P, none", store.run(1, 0), 0);
        checks.same("run of P, forty", store.run(1, 2), 40);
        Checks.keep(store, 2, "A0#a[a<?]");
        checks.same("run of A over none", store.run(2, 0), 1);
        checks.same("run of A over all", store.run(2, 20), 1);
        Checks.keep(store, 3, "B01+a");
        checks.same("run of B over none", store.run(3, 0), 1);
    }
}
