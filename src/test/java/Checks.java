import java.util.NoSuchElementException;

/** What the project's tests share: answers and exceptions that are due, and typing of texts. */
final class Checks {
    interface Call {
        void go();
    }

    interface Test {
        void look(Checks checks);
    }

    static final Class<? extends RuntimeException> BAD = IllegalArgumentException.class;
    static final Class<? extends RuntimeException> NOT_THERE = NoSuchElementException.class;
    static final Class<? extends RuntimeException> ARITHMETIC = ArithmeticException.class;
    static final Class<? extends RuntimeException> STATE = IllegalStateException.class;
    static final Class<? extends RuntimeException> TOO_MANY = UnsupportedOperationException.class;

    static final int LEAST = Integer.MIN_VALUE;
    static final int GREATEST = Integer.MAX_VALUE;

    private String heading = "";
    private int sentences;
    private int wrong;
    private int wrongHere;

    /**
     * A test of its own for a sentence of the document. Whatever it reports names the promise or
     * the term that the sentence belongs to, and what it throws doesn't keep the others from it.
     */
    void sentence(String where, String words, Test test) {
        sentences++;
        wrongHere = 0;
        heading = where + ", \"" + words + "\": ";
        try {
            test.look(this);
        } catch (RuntimeException | StackOverflowError e) {
            report("the test was ended by " + e);
        }
        heading = "";
    }

    void same(String what, long got, long due) {
        if (got != due) {
            report(what + " answered " + got + ", due is " + due);
        }
    }

    void sameText(String what, String got, String due) {
        if (!got.equals(due)) {
            report(what + " gave '" + got + "', due is '" + due + "'");
        }
    }

    void throwsThat(String what, Class<? extends RuntimeException> due, Call call) {
        String got = "nothing";
        try {
            call.go();
        } catch (RuntimeException e) {
            got = e.getClass().getName();
        }
        if (!got.equals(due.getName())) {
            report(what + " threw " + got + ", due is " + due.getName());
        }
    }

    /** The call throws, and leaves all that can be seen as it was. */
    void refused(String what, QueryStore store, Class<? extends RuntimeException> due, Call call) {
        String before = all(store);
        throwsThat(what, due, call);
        sameText("what is seen behind " + what, all(store), before);
    }

    void isTrue(String what, boolean holds) {
        if (!holds) {
            report(what + " does not hold");
        }
    }

    private void report(String line) {
        wrong++;
        wrongHere++;
        if (wrongHere <= 20) {
            System.out.println(heading + line);
        }
    }

    void finish() {
        String looked = sentences == 0 ? "" : " (" + sentences + " tests)";
        System.out.println((wrong == 0 ? "all answers are as due" : wrong + " answers are not as due") + looked);
        if (wrong != 0) {
            System.exit(1);
        }
    }

    /** The number whose bytes are these characters, at most eight, the last one lowest. */
    static long packed(String characters) {
        long eight = 0;
        for (int i = 0; i < characters.length(); i++) {
            eight = eight << 8 | characters.charAt(i);
        }
        return eight;
    }

    static void type(QueryStore store, String text) {
        for (int from = 0; from < text.length(); from += 8) {
            store.type(packed(text.substring(from, Math.min(from + 8, text.length()))));
        }
    }

    static int keep(QueryStore store, int k, String text) {
        type(store, text);
        return store.keep(k);
    }

    static int ask(QueryStore store, String text, int parameter) {
        type(store, text);
        return store.ask(parameter);
    }

    static int ask(QueryStore store, String text) {
        return ask(store, text, 0);
    }

    /** Puts in the rows (key, b, c), each as one text of the form key,b,c. */
    static QueryStore storeWith(int table, String... rows) {
        QueryStore store = new QueryStore();
        for (String row : rows) {
            ask(store, "I" + table + "(" + row + ")");
        }
        return store;
    }

    /** Puts in so many rows (n, 2n, -n), n from 0 on. */
    static void fill(QueryStore store, int table, int rows) {
        for (int n = 0; n < rows; n++) {
            ask(store, "I" + table + "(?,?*2,-?)", n);
        }
    }

    static QueryStore filled(int table, int rows) {
        QueryStore store = new QueryStore();
        fill(store, table, rows);
        return store;
    }

    /** All rows of a table, as a text. */
    static String rows(QueryStore store, int table) {
        StringBuilder all = new StringBuilder();
        for (int i = 0; i < store.count(3 + table); i++) {
            all.append(i == 0 ? "" : " ").append(store.row(table, i, 0)).append(',')
                    .append(store.row(table, i, 1)).append(',').append(store.row(table, i, 2));
        }
        return all.toString();
    }

    /** The whole result, as a text. */
    static String result(QueryStore store) {
        StringBuilder all = new StringBuilder();
        for (int i = 0; i < store.count(6); i++) {
            all.append(i == 0 ? "" : " ");
            for (int j = 0; j < store.count(7); j++) {
                all.append(j == 0 ? "" : ",").append(store.value(i, j));
            }
        }
        return all.toString();
    }

    /** All that can be seen without a change, as a text. */
    static String all(QueryStore store) {
        StringBuilder all = new StringBuilder();
        for (int what = 0; what < 12; what++) {
            all.append(what).append(':').append(store.count(what)).append(' ');
        }
        for (int table = 0; table < 3; table++) {
            all.append('[').append(rows(store, table)).append("] ");
        }
        return all.append(result(store)).toString();
    }

    /** The place of a text that is no statement, -1 for a statement. */
    static int placeOf(String text) {
        QueryStore store = new QueryStore();
        type(store, text);
        try {
            store.keep(0);
            return -1;
        } catch (IllegalArgumentException e) {
            return store.count(0);
        }
    }

    void reads(String text) {
        same("the place of the statement " + text, placeOf(text), -1);
    }

    void refuses(String text, int place) {
        same("the place of " + text, placeOf(text), place);
    }

    /**
     * Between the two texts each of the allowed characters makes a statement, and every other one
     * is refused at its place, but for those that are left out here.
     */
    void onlyThese(String before, String allowed, String leftOut, String after) {
        for (char c = 33; c <= 126; c++) {
            if (allowed.indexOf(c) >= 0) {
                reads(before + c + after);
            } else if (leftOut.indexOf(c) < 0) {
                refuses(before + c + after, before.length());
            }
        }
    }

    /** Asks the text and looks at the answer and at the whole result. */
    void gives(QueryStore store, String text, int parameter, int answer, String result) {
        same(text, ask(store, text, parameter), answer);
        sameText("result of " + text, result(store), result);
    }

    /** Asks the text, which throws, and looks whether the result is empty then. */
    void fails(QueryStore store, String text, int parameter, Class<? extends RuntimeException> due) {
        throwsThat(text, due, () -> ask(store, text, parameter));
        same("rows of the result behind " + text, store.count(6), 0);
    }
}
