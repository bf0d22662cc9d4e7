/** Promise 11: count. */
public final class CountTest {
    private static final String WHERE = "Promise 11: count";

    public static void main(String[] args) {
        Checks checks = new Checks();
        checks.sentence(WHERE, "THE PLACE of the latest text that couldn't be read", CountTest::place);
        checks.sentence(WHERE, "-1 if there was none (0)", CountTest::noPlace);
        checks.sentence(WHERE, "THE TEXT's length (1)", CountTest::length);
        checks.sentence(WHERE, "STATEMENTS kept (2)", CountTest::kept);
        checks.sentence(WHERE, "rows of table what - 3 (3 .. 5)", CountTest::rows);
        checks.sentence(WHERE, "rows of THE RESULT (6)", CountTest::rowsOfTheResult);
        checks.sentence(WHERE, "values in each of them, 0 if it has none (7)", CountTest::valuesInEach);
        checks.sentence(WHERE, "1 if begun, else 0 (8)", CountTest::begun);
        checks.sentence(WHERE, "changes noted since BEGIN (9)", CountTest::noted);
        checks.sentence(WHERE, "STATEMENTS run to the end (10)", CountTest::runToTheEnd);
        checks.sentence(WHERE, "run otherwise (11)", CountTest::runOtherwise);
        checks.sentence(WHERE, "else -1", CountTest::anythingElse);
        checks.finish();
    }

    private static void place(Checks checks) {
        QueryStore store = new QueryStore();
        Checks.type(store, "D0[1<2");
        checks.throwsThat("keep", Checks.BAD, () -> store.keep(0));
        checks.same("place behind keep", store.count(0), 6);
        checks.throwsThat("ask", Checks.BAD, () -> Checks.ask(store, "U0a"));
        checks.same("place behind ask, of the latest", store.count(0), 2);
        Checks.ask(store, "D0[1<2]");
        Checks.keep(store, 0, "D0");
        checks.same("place behind statements", store.count(0), 2);
        checks.throwsThat("keep of the empty text", Checks.BAD, () -> store.keep(0));
        checks.same("place of the empty text", store.count(0), 0);
    }

    private static void noPlace(Checks checks) {
        QueryStore store = new QueryStore();
        checks.same("place at first", store.count(0), -1);
        Checks.type(store, "D0[");
        checks.same("place of what wasn't read", store.count(0), -1);
        checks.throwsThat("keep(4)", Checks.BAD, () -> store.keep(4));
        checks.same("place of what wasn't read", store.count(0), -1);
        Checks.type(store, "1=1]");
        store.ask(0);
        checks.same("place behind a statement", store.count(0), -1);
        checks.throwsThat("what throws", Checks.NOT_THERE, () -> Checks.ask(store, "A0<a"));
        checks.same("place behind a run that throws", store.count(0), -1);
    }

    private static void length(Checks checks) {
        QueryStore store = new QueryStore();
        checks.same("length at first", store.count(1), 0);
        for (int n = 1; n <= 48; n++) {
            store.type('1');
            checks.same("length", store.count(1), n);
        }
        checks.throwsThat("one more", Checks.STATE, () -> store.type('1'));
        checks.same("length of the full text", store.count(1), 48);
        checks.throwsThat("ask", Checks.BAD, () -> store.ask(0));
        checks.same("length behind ask", store.count(1), 0);
    }

    private static void kept(Checks checks) {
        QueryStore store = new QueryStore();
        checks.same("kept at first", store.count(2), 0);
        int[] numbers = {3, 3, 0, 1, 0, 2, 3};
        int[] due = {1, 1, 2, 3, 3, 4, 4};
        for (int n = 0; n < numbers.length; n++) {
            Checks.keep(store, numbers[n], "D1");
            checks.same("kept behind keep(" + numbers[n] + ")", store.count(2), due[n]);
        }
    }

    private static void rows(Checks checks) {
        QueryStore store = Checks.filled(1, 20);
        Checks.fill(store, 2, 1);
        checks.same("rows of table 0", store.count(3), 0);
        checks.same("rows of table 1", store.count(4), 20);
        checks.same("rows of table 2", store.count(5), 1);
        Checks.ask(store, "D1[a>0]");
        checks.same("rows of table 1", store.count(4), 1);
        Checks.ask(store, "D1");
        checks.same("rows of table 1", store.count(4), 0);
    }

    private static void rowsOfTheResult(Checks checks) {
        QueryStore store = Checks.filled(0, 20);
        checks.same("rows behind I", store.count(6), 0);
        Checks.ask(store, "S0a");
        checks.same("rows behind S", store.count(6), 20);
        Checks.ask(store, "P00a[d<2]");
        checks.same("rows behind P", store.count(6), 40);
        Checks.ask(store, "A1+a");
        checks.same("rows behind A", store.count(6), 1);
        Checks.ask(store, "S1a");
        checks.same("rows behind S of none", store.count(6), 0);
        checks.throwsThat("what throws", Checks.ARITHMETIC, () -> Checks.ask(store, "S01/(a-19)"));
        checks.same("rows behind what throws", store.count(6), 0);
    }

    private static void valuesInEach(Checks checks) {
        QueryStore store = Checks.filled(0, 2);
        checks.same("values behind I", store.count(7), 0);
        String[] texts = {"S0a", "S0a,b", "S0a,b,c", "P00d,e", "A0+a", "B01#a"};
        int[] due = {1, 2, 3, 2, 1, 1};
        for (int n = 0; n < texts.length; n++) {
            Checks.ask(store, texts[n]);
            checks.same("values behind " + texts[n], store.count(7), due[n]);
        }
        String[] empty = {"S1a,b,c", "S0a,b[a>9]", "P01a", "D0[a>9]", "U0b=b"};
        for (String text : empty) {
            Checks.ask(store, "S0a,b,c");
            Checks.ask(store, text);
            checks.same("values behind " + text, store.count(7), 0);
        }
        Checks.ask(store, "S0a,b,c");
        checks.throwsThat("what throws", Checks.ARITHMETIC, () -> Checks.ask(store, "S0a,a/0"));
        checks.same("values behind what throws", store.count(7), 0);
    }

    private static void begun(Checks checks) {
        QueryStore store = new QueryStore();
        checks.same("begun at first", store.count(8), 0);
        store.begin();
        checks.same("begun", store.count(8), 1);
        checks.throwsThat("begin() again", Checks.STATE, () -> store.begin());
        checks.same("begun", store.count(8), 1);
        store.end();
        checks.same("begun behind end()", store.count(8), 0);
        store.begin();
        store.back();
        checks.same("begun behind back()", store.count(8), 0);
    }

    private static void noted(Checks checks) {
        QueryStore store = Checks.filled(0, 20);
        checks.same("noted before BEGIN", store.count(9), 0);
        store.begin();
        checks.same("noted at BEGIN", store.count(9), 0);
        Checks.ask(store, "U0b=b");
        checks.same("noted behind U", store.count(9), 20);
        Checks.ask(store, "D0");
        checks.same("noted behind D", store.count(9), 40);
        Checks.ask(store, "I0(1,1,1)");
        checks.same("noted behind I", store.count(9), 41);
        store.end();
        checks.same("noted behind end()", store.count(9), 0);
    }

    private static void runToTheEnd(Checks checks) {
        QueryStore store = new QueryStore();
        checks.same("at first", store.count(10), 0);
        String[] texts = {"I0(0,0,0)", "D0[a=1]", "U0b=1[a=1]", "S1a", "P01a", "A1+a", "B01#a"};
        for (int n = 0; n < texts.length; n++) {
            Checks.ask(store, texts[n]);
            checks.same("behind " + texts[n], store.count(10), n + 1);
        }
        Checks.keep(store, 0, "D1");
        checks.same("behind keep", store.count(10), 7);
        store.run(0, 0);
        checks.same("behind run", store.count(10), 8);
        checks.throwsThat("what throws", Checks.ARITHMETIC, () -> Checks.ask(store, "S0a/0"));
        checks.same("behind what throws", store.count(10), 8);
    }

    private static void runOtherwise(Checks checks) {
        QueryStore store = Checks.filled(0, 7);
        checks.same("behind statements run to the end", store.count(11), 0);
        checks.fails(store, "I0(0,0,0)", 0, Checks.STATE);
        checks.same("behind a key that is there", store.count(11), 1);
        checks.fails(store, "S0a/a", 0, Checks.ARITHMETIC);
        checks.same("behind a division", store.count(11), 2);
        checks.fails(store, "A1<a", 0, Checks.NOT_THERE);
        checks.same("behind the least of none", store.count(11), 3);
        checks.fails(store, "P00a", 0, Checks.TOO_MANY);
        checks.same("behind 49 rows", store.count(11), 4);
        Checks.keep(store, 1, "A0+1/?");
        checks.throwsThat("run(1, 0)", Checks.ARITHMETIC, () -> store.run(1, 0));
        checks.same("behind a run", store.count(11), 5);
        store.run(1, 1);
        checks.same("behind a run to the end", store.count(11), 5);
        checks.same("run to the end", store.count(10), 8);
    }

    private static void anythingElse(Checks checks) {
        QueryStore store = Checks.filled(0, 3);
        int[] none = {-1, -2, 12, 13, 100, Checks.LEAST, Checks.GREATEST};
        for (int what : none) {
            checks.same("count(" + what + ")", store.count(what), -1);
        }
    }
}
