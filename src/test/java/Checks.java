import java.util.NoSuchElementException;

/** What the project's tests share: answers and exceptions that are due, and typing of texts. */
final class Checks {
    interface Call {
        void go();
    }

    static final Class<? extends RuntimeException> BAD = IllegalArgumentException.class;
    static final Class<? extends RuntimeException> NOT_THERE = NoSuchElementException.class;
    static final Class<? extends RuntimeException> ARITHMETIC = ArithmeticException.class;
    static final Class<? extends RuntimeException> STATE = IllegalStateException.class;
    static final Class<? extends RuntimeException> TOO_MANY = UnsupportedOperationException.class;

    private int wrong;

    void same(String what, long got, long due) {
        if (got != due) {
            report(what + " answered " + got + ", due is " + due);
        }
    }

    void throwsThat(String what, Class<? extends RuntimeException> due, Call call) {
        String got = "nothing";
        try {
            call.go();
        } catch (RuntimeException e) {
            got = e.getClass().getName();
        }
        if (!got.equals(due.getName())) {
            report(what + " threw " + got + ", due is " + due.getName());
        }
    }

    void isTrue(String what, boolean holds) {
        if (!holds) {
            report(what + " does not hold");
        }
    }

    private void report(String line) {
        wrong++;
        if (wrong <= 50) {
            System.out.println(line);
        }
    }

    void finish() {
        System.out.println(wrong == 0 ? "all answers are as due" : wrong + " answers are not as due");
        if (wrong != 0) {
            System.exit(1);
        }
    }

    /** The number whose bytes are these characters, at most eight, the last one lowest. */
    static long packed(String characters) {
        long eight = 0;
        for (int i = 0; i < characters.length(); i++) {
            eight = eight << 8 | characters.charAt(i);
        }
        return eight;
    }

    static void type(QueryStore store, String text) {
        for (int from = 0; from < text.length(); from += 8) {
            store.type(packed(text.substring(from, Math.min(from + 8, text.length()))));
        }
    }

    static int keep(QueryStore store, int k, String text) {
        type(store, text);
        return store.keep(k);
    }

    static int ask(QueryStore store, String text, int parameter) {
        type(store, text);
        return store.ask(parameter);
    }

    static int ask(QueryStore store, String text) {
        return ask(store, text, 0);
    }

    /** Puts in the rows (key, b, c), each as one text of the form key,b,c. */
    static QueryStore storeWith(int table, String... rows) {
        QueryStore store = new QueryStore();
        for (String row : rows) {
            ask(store, "I" + table + "(" + row + ")");
        }
        return store;
    }

    /** All rows of a table, as a text. */
    static String rows(QueryStore store, int table) {
        StringBuilder all = new StringBuilder();
        for (int i = 0; i < store.count(3 + table); i++) {
            all.append(i == 0 ? "" : " ").append(store.row(table, i, 0)).append(',')
                    .append(store.row(table, i, 1)).append(',').append(store.row(table, i, 2));
        }
        return all.toString();
    }

    /** The whole result, as a text. */
    static String result(QueryStore store) {
        StringBuilder all = new StringBuilder();
        for (int i = 0; i < store.count(6); i++) {
            all.append(i == 0 ? "" : " ");
            for (int j = 0; j < store.count(7); j++) {
                all.append(j == 0 ? "" : ",").append(store.value(i, j));
            }
        }
        return all.toString();
    }

    void sameText(String what, String got, String due) {
        if (!got.equals(due)) {
            report(what + " gave '" + got + "', due is '" + due + "'");
        }
    }

    /** Asks the text and looks at the answer and at the whole result. */
    void gives(QueryStore store, String text, int parameter, int answer, String result) {
        same(text, ask(store, text, parameter), answer);
        sameText("result of " + text, result(store), result);
    }

    /** Asks the text, which throws, and looks whether the result is empty then. */
    void fails(QueryStore store, String text, int parameter, Class<? extends RuntimeException> due) {
        throwsThat(text, due, () -> ask(store, text, parameter));
        same("rows of the result behind " + text, store.count(6), 0);
    }
}
