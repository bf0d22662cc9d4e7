/** Terms: the sentence on "Bad". */
public final class BadTest {
    private static final String WHERE = "Terms, \"Bad\"";

    public static void main(String[] args) {
        Checks checks = new Checks();
        checks.sentence(WHERE, "IllegalArgumentException, numbers out of range", BadTest::numbersOutOfRange);
        checks.sentence(WHERE, "and texts that are no STATEMENT", BadTest::noStatements);
        checks.sentence(WHERE + " in type", "it comes first", BadTest::comesFirstInType);
        checks.sentence(WHERE + " in keep", "it comes first", BadTest::comesFirstInKeep);
        checks.sentence(WHERE + " in run", "it comes first", BadTest::comesFirstInRun);
        checks.sentence(WHERE + " in ask", "it comes first", BadTest::comesFirstInAsk);
        checks.sentence(WHERE + " in row", "it comes first", BadTest::comesFirstInRow);
        checks.finish();
    }

    private static void numbersOutOfRange(Checks checks) {
        QueryStore store = Checks.filled(0, 2);
        Checks.ask(store, "S0a");
        Checks.type(store, "D0");
        String before = Checks.all(store);
        int[] numbers = {-1, 4, 5, Checks.LEAST, Checks.GREATEST};
        for (int k : numbers) {
            checks.throwsThat("keep(" + k + ")", Checks.BAD, () -> store.keep(k));
            checks.throwsThat("run(" + k + ")", Checks.BAD, () -> store.run(k, 0));
        }
        int[] tables = {-1, 3, 4, Checks.LEAST, Checks.GREATEST};
        for (int t : tables) {
            checks.throwsThat("row of table " + t, Checks.BAD, () -> store.row(t, 0, 0));
            checks.throwsThat("row, column " + t, Checks.BAD, () -> store.row(0, 0, t));
        }
        checks.throwsThat("type of a byte below", Checks.BAD, () -> store.type(32));
        checks.throwsThat("type of a byte above", Checks.BAD, () -> store.type(127));
        checks.sameText("what is seen behind all of these", Checks.all(store), before);
    }

    private static void noStatements(Checks checks) {
        String[] texts = {"", "D", "D3", "d0", "D0D0", "I0(1,2)", "U0a=1", "S0", "P0a", "A0a", "B00a", "S01+", "S0(1"};
        for (String text : texts) {
            QueryStore store = Checks.filled(0, 1);
            checks.throwsThat("keep of " + text, Checks.BAD, () -> Checks.keep(store, 0, text));
            checks.throwsThat("ask of " + text, Checks.BAD, () -> Checks.ask(store, text));
            checks.same("kept", store.count(2), 0);
            checks.sameText("rows", Checks.rows(store, 0), "0,0,0");
        }
    }

    private static void comesFirstInType(Checks checks) {
        QueryStore store = new QueryStore();
        for (int i = 0; i < 6; i++) {
            store.type(Checks.packed("S0S0S0S0"));
        }
        checks.refused("one bad byte too many", store, Checks.BAD, () -> store.type(32));
        checks.refused("a bad byte behind one too many", store, Checks.BAD, () -> store.type(Checks.packed("a\u007f")));
        checks.refused("a bad byte before one too many", store, Checks.BAD, () -> store.type(Checks.packed("\u007fa")));
        checks.refused("one too many", store, Checks.STATE, () -> store.type('a'));
    }

    private static void comesFirstInKeep(Checks checks) {
        QueryStore store = new QueryStore();
        Checks.type(store, "D0;");
        checks.refused("keep(4) of no statement", store, Checks.BAD, () -> store.keep(4));
        checks.same("place, as nothing was read", store.count(0), -1);
        checks.same("length", store.count(1), 3);
    }

    private static void comesFirstInRun(Checks checks) {
        QueryStore store = new QueryStore();
        checks.refused("run(-1) with none kept", store, Checks.BAD, () -> store.run(-1, 0));
        checks.refused("run(4) with none kept", store, Checks.BAD, () -> store.run(4, 0));
        checks.refused("run(0) with none kept", store, Checks.NOT_THERE, () -> store.run(0, 0));
    }

    // What is in front of the fault in a text could be run, and would throw.
    private static void comesFirstInAsk(Checks checks) {
        QueryStore store = Checks.filled(0, 20);
        String[] texts = {"I0(1,0,0);", "I0(99,0,0);", "S01/0;", "A1>a;", "P00a;"};
        for (String text : texts) {
            checks.throwsThat("ask of " + text, Checks.BAD, () -> Checks.ask(store, text));
        }
        checks.same("run otherwise", store.count(11), 0);
    }

    private static void comesFirstInRow(Checks checks) {
        QueryStore store = Checks.filled(0, 1);
        int[] rows = {-1, 1, 99};
        for (int i : rows) {
            checks.throwsThat("no table, no row", Checks.BAD, () -> store.row(3, i, 0));
            checks.throwsThat("no table, no row", Checks.BAD, () -> store.row(-1, i, 0));
            checks.throwsThat("no column, no row", Checks.BAD, () -> store.row(0, i, 3));
            checks.throwsThat("no column, no row", Checks.BAD, () -> store.row(0, i, -1));
            checks.throwsThat("no row", Checks.NOT_THERE, () -> store.row(0, i, 0));
        }
    }
}
