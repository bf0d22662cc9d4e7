/** Promise 7: row. */
public final class RowTest {
    private static final String WHERE = "Promise 7: row";

    public static void main(String[] args) {
        Checks checks = new Checks();
        checks.sentence(WHERE, "Column j (0 a .. 2 c) of row i (from 0) of the table", RowTest::columns);
        checks.sentence(WHERE, "no such row: NoSuchElementException", RowTest::noSuchRow);
        checks.sentence(WHERE, "throws IllegalArgumentException", RowTest::numbersOutOfRange);
        checks.finish();
    }

    private static void columns(Checks checks) {
        for (int table = 0; table < 3; table++) {
            QueryStore store = Checks.filled(table, 20);
            for (int i = 0; i < 20; i++) {
                checks.same("a of row " + i, store.row(table, i, 0), i);
                checks.same("b of row " + i, store.row(table, i, 1), 2 * i);
                checks.same("c of row " + i, store.row(table, i, 2), -i);
            }
        }
    }

    private static void noSuchRow(Checks checks) {
        QueryStore store = Checks.filled(2, 20);
        Checks.fill(store, 1, 3);
        int[] sizes = {0, 3, 20};
        for (int table = 0; table < 3; table++) {
            int[] rows = {-1, sizes[table], sizes[table] + 1, 20, 21, Checks.LEAST, Checks.GREATEST};
            for (int i : rows) {
                for (int j = 0; j < 3; j++) {
                    fails(checks, store, Checks.NOT_THERE, table, i, j);
                }
            }
        }
        Checks.ask(store, "D2[a>4]");
        fails(checks, store, Checks.NOT_THERE, 2, 5, 0);
        checks.same("a of the last row", store.row(2, 4, 0), 4);
    }

    private static void numbersOutOfRange(Checks checks) {
        QueryStore store = Checks.filled(0, 20);
        Checks.fill(store, 2, 1);
        int[] bad = {-1, 3, 4, Checks.LEAST, Checks.GREATEST};
        for (int number : bad) {
            fails(checks, store, Checks.BAD, number, 0, 0);
            fails(checks, store, Checks.BAD, 0, 0, number);
            fails(checks, store, Checks.BAD, 2, 0, number);
            fails(checks, store, Checks.BAD, number, 0, number);
        }
    }

    private static void fails(Checks checks, QueryStore store, Class<? extends RuntimeException> due,
            int table, int i, int j) {
        checks.throwsThat("row(" + table + ", " + i + ", " + j + ")", due, () -> store.row(table, i, j));
    }
}
