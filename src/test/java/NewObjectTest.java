/** Promise 1: a new object has empty tables, no statements kept, and nothing begun. */
public final class NewObjectTest {
    public static void main(String[] args) {
        Checks checks = new Checks();
        QueryStore used = Checks.storeWith(0, "1,2,3");
        used.begin();
        Checks.keep(used, 0, "S0a");
        int[] due = {-1, 0, 0, 0, 0, 0, 0, 0, 0, 0, 0, 0};
        QueryStore store = new QueryStore();
        for (int what = 0; what < due.length; what++) {
            checks.same("count(" + what + ")", store.count(what), due[what]);
        }
        for (int i = 0; i < 3; i++) {
            int number = i;
            checks.throwsThat("row(" + i + ", 0, 0)", Checks.NOT_THERE, () -> store.row(number, 0, 0));
        }
        for (int k = 0; k < 4; k++) {
            int number = k;
            checks.throwsThat("run(" + k + ", 0)", Checks.NOT_THERE, () -> store.run(number, 0));
        }
        checks.throwsThat("value(0, 0)", Checks.NOT_THERE, () -> store.value(0, 0));
        checks.throwsThat("end()", Checks.STATE, () -> store.end());
        checks.throwsThat("back()", Checks.STATE, () -> store.back());
        checks.finish();
    }
}
