/** Promise 1: a new object. */
public final class NewObjectTest {
    private static final String WHERE = "Promise 1: A new object";

    public static void main(String[] args) {
        Checks checks = new Checks();
        checks.sentence(WHERE, "Empty tables", NewObjectTest::emptyTables);
        checks.sentence(WHERE, "no STATEMENTS kept", NewObjectTest::noStatementsKept);
        checks.sentence(WHERE, "nothing begun", NewObjectTest::nothingBegun);
        checks.sentence("What it is", "An object is used for at most 512 calls after it has been made",
                NewObjectTest::fiveHundredAndTwelveCalls);
        checks.sentence(WHERE, "QueryStore()", NewObjectTest::besideAUsedOne);
        checks.finish();
    }

    private static void emptyTables(Checks checks) {
        QueryStore store = new QueryStore();
        for (int table = 0; table < 3; table++) {
            int number = table;
            checks.same("rows of table " + table, store.count(3 + table), 0);
            checks.throwsThat("row(" + table + ", 0, 0)", Checks.NOT_THERE, () -> store.row(number, 0, 0));
            checks.gives(store, "S" + table + "a", 0, 0, "");
        }
    }

    private static void noStatementsKept(Checks checks) {
        QueryStore store = new QueryStore();
        checks.same("statements kept", store.count(2), 0);
        for (int k = 0; k < 4; k++) {
            int number = k;
            checks.throwsThat("run(" + k + ", 0)", Checks.NOT_THERE, () -> store.run(number, 0));
        }
    }

    private static void nothingBegun(Checks checks) {
        QueryStore store = new QueryStore();
        checks.same("begun", store.count(8), 0);
        checks.same("changes noted", store.count(9), 0);
        checks.throwsThat("end()", Checks.STATE, () -> store.end());
        checks.throwsThat("back()", Checks.STATE, () -> store.back());
        store.begin();
        checks.same("begun", store.count(8), 1);
    }

    private static void fiveHundredAndTwelveCalls(Checks checks) {
        QueryStore store = new QueryStore();
        checks.same("type, call 1", store.type(Checks.packed("I0(?,0,0")), 8);
        checks.same("type, call 2", store.type(')'), 9);
        checks.same("keep, call 3", store.keep(0), 1);
        checks.same("type, call 4", store.type(Checks.packed("D0")), 2);
        checks.same("keep, call 5", store.keep(1), 0);
        for (int call = 6; call < 512; call += 2) {
            checks.same("run, call " + call, store.run(0, call), 1);
            checks.same("run, call " + (call + 1), store.run(1, 0), 1);
        }
        checks.same("count(10), call 512", store.count(10), 506);
    }

    private static void besideAUsedOne(Checks checks) {
        QueryStore used = Checks.filled(0, 20);
        Checks.keep(used, 0, "S0a");
        used.begin();
        used.run(0, 0);
        QueryStore store = new QueryStore();
        int[] due = {-1, 0, 0, 0, 0, 0, 0, 0, 0, 0, 0, 0};
        for (int what = 0; what < due.length; what++) {
            checks.same("count(" + what + ")", store.count(what), due[what]);
        }
        checks.throwsThat("value(0, 0)", Checks.NOT_THERE, () -> store.value(0, 0));
        checks.same("rows of the used one", used.count(3), 20);
    }
}
