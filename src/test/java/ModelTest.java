import java.util.function.IntSupplier;

/** Long runs of calls, the same in every run of the test, with the model's answers as those due. */
public final class ModelTest {
    private static final int STORES = 1500;
    private static final int CALLS = 512;
    private static final String[] USUAL = {
        "I0(?,?%3,?*2)", "I1(?%23,?,-?)", "I2(-?,?/7,1)", "I0(?%41,0,0)", "I1(?%37,1,?)", "I0(?%29,?%5,?%7)",
        "I2(?%31,?%4,?%3)", "D0[a%5=?%5]", "D1[a>?+9]", "D2[b=c&a>?]", "U0b=?[c>b]", "U1c=b/(a-?)", "S0a,b,c^b",
        "S1a,b[a<?]^c", "P01a,d[b=e]^c", "P12a*d,e", "P20f,b^e", "B01+a*e", "B00>a-d", "A1<b[a>?]", "A2#b/c",
        "P01a[a<d]^f", "P00a/(d-?)",
    };
    private static final String SIGNS = "IDUSPABabcdefg0123456789?+-*/%()[]<>=&|^#,!~";

    private final Checks checks = new Checks();
    private final Grammar grammar = new Grammar();
    private final Dice dice = new Dice(20);
    private QueryStore store;
    private Model model;
    private int calls;
    private String waiting = "";
    private boolean toKeep;

    public static void main(String[] args) {
        ModelTest test = new ModelTest();
        for (int n = 0; n < STORES; n++) {
            test.oneStore(n);
        }
        test.checks.finish();
    }

    private void oneStore(int n) {
        store = new QueryStore();
        model = new Model(grammar);
        waiting = "";
        calls = 0;
        if (n % 4 > 0) {
            fillTables(n);
        }
        for (; calls < CALLS; calls++) {
            oneCall(n);
        }
    }

    private void fillTables(int n) {
        for (int table = 0; table < 3; table++) {
            int rows = dice.below(30);
            for (int i = 0; i < rows; i++) {
                waiting = "I" + table + "(?%23,?%5-2,?%4)\n";
                toKeep = false;
                for (; !waiting.isEmpty(); calls++) {
                    typeOn(n);
                }
            }
        }
    }

    private void oneCall(int n) {
        if (!waiting.isEmpty()) {
            typeOn(n);
            return;
        }
        int kind = dice.below(100);
        if (kind < 35) {
            waiting = newText();
            toKeep = dice.below(4) == 0;
            typeOn(n);
        } else if (kind < 55) {
            int k = dice.below(20) == 0 ? dice.below(9) - 3 : dice.below(4);
            int parameter = parameter();
            compare(n, "run(" + k + ", " + parameter + ")", () -> store.run(k, parameter),
                    () -> model.run(k, parameter));
            lookAtResult(n);
        } else if (kind < 67) {
            int i = dice.below(9) == 0 ? dice.below(50) - 5 : dice.below(Math.max(1, model.count(6)));
            int j = dice.below(12) == 0 ? dice.below(6) - 2 : dice.below(3);
            compare(n, "value(" + i + ", " + j + ")", () -> store.value(i, j), () -> model.value(i, j));
        } else if (kind < 82) {
            int table = dice.below(15) == 0 ? dice.below(7) - 2 : dice.below(3);
            int rows = Math.max(1, model.count(3 + table));
            int i = dice.below(8) == 0 ? dice.below(24) - 2 : dice.below(rows);
            int j = dice.below(15) == 0 ? dice.below(7) - 2 : dice.below(3);
            compare(n, "row(" + table + ", " + i + ", " + j + ")", () -> store.row(table, i, j),
                    () -> model.row(table, i, j));
        } else if (kind < 92) {
            int what = dice.below(14) - 1;
            compare(n, "count(" + what + ")", () -> store.count(what), () -> model.count(what));
        } else {
            changes(n, kind);
        }
    }

    private void changes(int n, int kind) {
        if (kind < 94) {
            compare(n, "begin()", () -> {
                store.begin();
                return 0;
            }, () -> model.begin());
        } else if (kind == 94) {
            compare(n, "end()", () -> store.end(), () -> model.end());
        } else if (kind == 95) {
            compare(n, "back()", () -> store.back(), () -> model.back());
        } else {
            long eight = (long) dice.any() << 32 | dice.any();
            compare(n, "type(" + eight + ")", () -> store.type(eight), () -> model.type(eight));
        }
    }

    private void lookAtResult(int n) {
        int rows = model.count(6);
        int width = model.count(7);
        for (int looks = Math.min(5, rows * width); looks > 0 && calls < CALLS - 1; looks--, calls++) {
            int i = dice.below(rows);
            int j = dice.below(width);
            compare(n, "value(" + i + ", " + j + ")", () -> store.value(i, j), () -> model.value(i, j));
        }
    }

    // Types the next characters of the waiting text, with zeros among them, then keeps or asks it.
    private void typeOn(int n) {
        if (!waiting.isEmpty() && waiting.charAt(0) != '\n') {
            long eight = 0;
            int bytes = 0;
            while (bytes < 8 && waiting.charAt(0) != '\n') {
                boolean leaveOut = dice.below(12) == 0;
                eight = eight << 8 | (leaveOut ? 0 : waiting.charAt(0));
                waiting = leaveOut ? waiting : waiting.substring(1);
                bytes++;
            }
            long all = eight;
            compare(n, "type(" + all + ")", () -> store.type(all), () -> model.type(all));
            return;
        }
        waiting = "";
        if (toKeep) {
            int k = dice.below(20) == 0 ? dice.below(9) - 3 : dice.below(4);
            compare(n, "keep(" + k + ")", () -> store.keep(k), () -> model.keep(k));
        } else {
            int parameter = parameter();
            compare(n, "ask(" + parameter + ")", () -> store.ask(parameter), () -> model.ask(parameter));
            lookAtResult(n);
        }
    }

    // Its end is marked, so that an empty text waits to be read, too.
    private String newText() {
        int kind = dice.below(10);
        if (kind < 5) {
            return USUAL[dice.below(USUAL.length)] + "\n";
        }
        String statement = grammar.statement(dice);
        while (statement.charAt(0) == 'D' && dice.below(10) > 0) {
            statement = grammar.statement(dice);
        }
        StringBuilder text = new StringBuilder(statement);
        if (kind > 7) {
            spoil(text);
        }
        return text.append('\n').toString();
    }

    private void spoil(StringBuilder text) {
        int at = dice.below(text.length());
        switch (dice.below(4)) {
            case 0:
                text.setLength(at);
                break;
            case 1:
                text.deleteCharAt(at);
                break;
            case 2:
                text.setCharAt(at, SIGNS.charAt(dice.below(SIGNS.length())));
                break;
            default:
                text.insert(at, SIGNS.charAt(dice.below(SIGNS.length())));
                break;
        }
    }

    private int parameter() {
        switch (dice.below(12)) {
            case 0:
                return dice.any();
            case 1:
                return Integer.MIN_VALUE;
            case 2:
                return Integer.MAX_VALUE;
            case 3:
                return 0;
            default:
                return dice.below(60) - 15;
        }
    }

    private void compare(int n, String what, IntSupplier call, IntSupplier due) {
        checks.sameText("store " + n + ", call " + calls + ": " + what, outcome(call), outcome(due));
    }

    private static String outcome(IntSupplier call) {
        try {
            return String.valueOf(call.getAsInt());
        } catch (RuntimeException e) {
            return e.getClass().getName();
        }
    }
}
