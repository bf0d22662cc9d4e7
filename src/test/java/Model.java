import java.util.ArrayList;
import java.util.Collections;
import java.util.List;
import java.util.Map;
import java.util.NoSuchElementException;
import java.util.TreeMap;

/** The document in its plainest form: rows in sorted maps, statements as trees of functions. */
final class Model {
    interface Expression {
        int of(int[] columns, int parameter);
    }

    interface Condition {
        boolean of(int[] columns, int parameter);
    }

    private static final class Statement {
        char kind;
        int first;
        int second;
        char target;
        char function;
        int order = -1;
        int parameters;
        final List<Expression> values = new ArrayList<>();
        Condition condition = (columns, parameter) -> true;
    }

    private final Grammar grammar;
    private List<TreeMap<Integer, int[]>> tables = new ArrayList<>();
    private List<TreeMap<Integer, int[]>> before;
    private final Statement[] kept = new Statement[4];
    private String text = "";
    private int place = -1;
    private List<int[]> result = List.of();
    private int noted;
    private int good;
    private int failed;

    Model(Grammar grammar) {
        this.grammar = grammar;
        for (int t = 0; t < 3; t++) {
            tables.add(new TreeMap<>());
        }
    }

    int type(long eight) {
        String more = "";
        for (int i = 7; i >= 0; i--) {
            long c = eight >> 8 * i & 0xff;
            if (c != 0 && (c < 33 || c > 126)) {
                throw new IllegalArgumentException();
            }
            more += c == 0 ? "" : String.valueOf((char) c);
        }
        if (text.length() + more.length() > 48) {
            throw new IllegalStateException();
        }
        text += more;
        return text.length();
    }

    int keep(int k) {
        if (k < 0 || k > 3) {
            throw new IllegalArgumentException();
        }
        kept[k] = read();
        return kept[k].parameters;
    }

    int run(int k, int parameter) {
        if (k < 0 || k > 3) {
            throw new IllegalArgumentException();
        }
        if (kept[k] == null) {
            throw new NoSuchElementException();
        }
        return execute(kept[k], parameter);
    }

    int ask(int parameter) {
        return execute(read(), parameter);
    }

    int value(int i, int j) {
        if (i < 0 || i >= result.size() || j < 0 || j >= result.get(i).length) {
            throw new NoSuchElementException();
        }
        return result.get(i)[j];
    }

    int row(int table, int i, int j) {
        if (table < 0 || table > 2 || j < 0 || j > 2) {
            throw new IllegalArgumentException();
        }
        if (i < 0 || i >= tables.get(table).size()) {
            throw new NoSuchElementException();
        }
        return new ArrayList<>(tables.get(table).values()).get(i)[j];
    }

    int begin() {
        if (before != null) {
            throw new IllegalStateException();
        }
        before = copy(tables);
        noted = 0;
        return 0;
    }

    int end() {
        if (before == null) {
            throw new IllegalStateException();
        }
        before = null;
        return noted;
    }

    int back() {
        if (before == null) {
            throw new IllegalStateException();
        }
        tables = before;
        before = null;
        return noted;
    }

    int count(int what) {
        int width = result.isEmpty() ? 0 : result.get(0).length;
        int statements = 0;
        for (Statement statement : kept) {
            statements += statement == null ? 0 : 1;
        }
        int[] all = {place, text.length(), statements, tables.get(0).size(), tables.get(1).size(),
            tables.get(2).size(), result.size(), width, before == null ? 0 : 1, before == null ? 0 : noted,
            good, failed};
        return what < 0 || what >= all.length ? -1 : all[what];
    }

    private static List<TreeMap<Integer, int[]>> copy(List<TreeMap<Integer, int[]>> tables) {
        List<TreeMap<Integer, int[]>> all = new ArrayList<>();
        for (TreeMap<Integer, int[]> table : tables) {
            TreeMap<Integer, int[]> rows = new TreeMap<>();
            for (Map.Entry<Integer, int[]> row : table.entrySet()) {
                rows.put(row.getKey(), row.getValue().clone());
            }
            all.add(rows);
        }
        return all;
    }

    private int execute(Statement s, int parameter) {
        result = List.of();
        List<TreeMap<Integer, int[]>> held = copy(tables);
        try {
            List<int[]> rows = new ArrayList<>();
            int answer = carriedOut(s, parameter, rows);
            result = rows;
            good++;
            if ("IDU".indexOf(s.kind) >= 0 && before != null) {
                noted += answer;
            }
            return answer;
        } catch (RuntimeException e) {
            tables = held;
            failed++;
            throw e;
        }
    }

    private int carriedOut(Statement s, int parameter, List<int[]> rows) {
        TreeMap<Integer, int[]> table = tables.get(s.first);
        if (s.kind == 'I') {
            int[] row = new int[3];
            for (int j = 0; j < 3; j++) {
                row[j] = s.values.get(j).of(null, parameter);
            }
            if (table.containsKey(row[0]) || table.size() == 20) {
                throw new IllegalStateException();
            }
            table.put(row[0], row);
            return 1;
        }
        List<int[]> sources = new ArrayList<>();
        List<int[]> values = new ArrayList<>();
        goThrough(s, parameter, sources, values);
        for (int i = 0; i < sources.size(); i++) {
            if (s.kind == 'D') {
                table.remove(sources.get(i)[0]);
            } else if (s.kind == 'U') {
                table.get(sources.get(i)[0])[s.target - 'a'] = values.get(i)[0];
            }
        }
        if (s.kind == 'D' || s.kind == 'U') {
            return sources.size();
        }
        if (s.kind == 'A' || s.kind == 'B') {
            rows.add(new int[] {folded(s.function, values)});
            return 1;
        }
        List<Integer> places = new ArrayList<>();
        for (int i = 0; i < sources.size(); i++) {
            places.add(i);
        }
        if (s.order >= 0) {
            Collections.sort(places, (x, y) -> Integer.compare(sources.get(x)[s.order], sources.get(y)[s.order]));
        }
        for (int i : places) {
            rows.add(values.get(i));
        }
        return rows.size();
    }

    private void goThrough(Statement s, int parameter, List<int[]> sources, List<int[]> values) {
        for (int[] first : tables.get(s.first).values()) {
            List<int[]> seconds = new ArrayList<>();
            if (s.second < 0) {
                seconds.add(new int[3]);
            } else {
                seconds.addAll(tables.get(s.second).values());
            }
            for (int[] second : seconds) {
                int[] columns = {first[0], first[1], first[2], second[0], second[1], second[2]};
                if (!s.condition.of(columns, parameter)) {
                    continue;
                }
                int[] of = new int[s.values.size()];
                for (int j = 0; j < of.length; j++) {
                    of[j] = s.values.get(j).of(columns, parameter);
                }
                sources.add(columns);
                values.add(of);
                if ((s.kind == 'S' || s.kind == 'P') && values.size() > 40) {
                    throw new UnsupportedOperationException();
                }
            }
        }
    }

    private static int folded(char function, List<int[]> values) {
        int sum = 0;
        List<Integer> sorted = new ArrayList<>();
        for (int[] one : values) {
            sum += one[0];
            sorted.add(one[0]);
        }
        Collections.sort(sorted);
        if (function == '+' || function == '#') {
            return function == '+' ? sum : values.size();
        }
        if (sorted.isEmpty()) {
            throw new NoSuchElementException();
        }
        return function == '<' ? sorted.get(0) : sorted.get(sorted.size() - 1);
    }

    private Statement read() {
        String whole = text;
        text = "";
        int wrong = grammar.placeOf(whole);
        if (wrong >= 0) {
            place = wrong;
            throw new IllegalArgumentException();
        }
        return statementOf(whole);
    }

    // From here on texts are statements: what stands where is known, and they are cut in pieces.
    private static Statement statementOf(String whole) {
        Statement s = new Statement();
        s.kind = whole.charAt(0);
        s.first = whole.charAt(1) - '0';
        s.parameters = whole.length() - whole.replace("?", "").length();
        boolean pairs = s.kind == 'P' || s.kind == 'B';
        s.second = pairs ? whole.charAt(2) - '0' : -1;
        String rest = whole.substring(pairs ? 3 : 2);
        int hat = rest.indexOf('^');
        if (hat >= 0) {
            s.order = rest.charAt(hat + 1) - 'a';
            rest = rest.substring(0, hat);
        }
        int bracket = rest.indexOf('[');
        if (bracket >= 0) {
            s.condition = conditionOf(rest.substring(bracket + 1, rest.length() - 1));
            rest = rest.substring(0, bracket);
        }
        if (s.kind == 'I') {
            rest = rest.substring(1, rest.length() - 1);
        } else if (s.kind == 'U') {
            s.target = rest.charAt(0);
            rest = rest.substring(2);
        } else if (s.kind == 'A' || s.kind == 'B') {
            s.function = rest.charAt(0);
            rest = rest.substring(1);
        }
        if (s.kind != 'D') {
            for (String one : rest.split(",")) {
                s.values.add(expressionOf(one));
            }
        }
        return s;
    }

    private static Condition conditionOf(String rest) {
        Condition any = (columns, parameter) -> false;
        for (String and : rest.split("\\|")) {
            Condition all = (columns, parameter) -> true;
            for (String comparison : and.split("&")) {
                Condition earlier = all;
                Condition next = comparisonOf(comparison);
                all = (columns, parameter) -> earlier.of(columns, parameter) && next.of(columns, parameter);
            }
            Condition before = any;
            Condition last = all;
            any = (columns, parameter) -> before.of(columns, parameter) || last.of(columns, parameter);
        }
        return any;
    }

    private static Condition comparisonOf(String rest) {
        String[] sides = rest.split("[<=>]");
        char sign = rest.charAt(sides[0].length());
        Expression left = expressionOf(sides[0]);
        Expression right = expressionOf(sides[1]);
        return (columns, parameter) -> {
            int order = Integer.compare(left.of(columns, parameter), right.of(columns, parameter));
            return sign == '<' ? order < 0 : sign == '=' ? order == 0 : order > 0;
        };
    }

    // Splits at the last operator of the weakest kind outside of brackets.
    private static Expression expressionOf(String rest) {
        int at = lastOperator(rest, "+-");
        if (at < 0) {
            at = lastOperator(rest, "*/%");
        }
        if (at >= 0) {
            char operator = rest.charAt(at);
            Expression left = expressionOf(rest.substring(0, at));
            Expression right = expressionOf(rest.substring(at + 1));
            return (columns, parameter) ->
                    applied(operator, left.of(columns, parameter), right.of(columns, parameter));
        }
        char c = rest.charAt(0);
        if (c == '-') {
            Expression inner = expressionOf(rest.substring(1));
            return (columns, parameter) -> -inner.of(columns, parameter);
        }
        if (c == '(') {
            return expressionOf(rest.substring(1, rest.length() - 1));
        }
        if (c == '?') {
            return (columns, parameter) -> parameter;
        }
        if (c >= 'a') {
            return (columns, parameter) -> columns[c - 'a'];
        }
        int number = Integer.parseInt(rest);
        return (columns, parameter) -> number;
    }

    private static int lastOperator(String rest, String operators) {
        int open = 0;
        int found = -1;
        for (int i = 0; i < rest.length(); i++) {
            char c = rest.charAt(i);
            open += c == '(' ? 1 : c == ')' ? -1 : 0;
            boolean binary = i > 0 && "+-*/%(".indexOf(rest.charAt(i - 1)) < 0;
            if (open == 0 && binary && operators.indexOf(c) >= 0) {
                found = i;
            }
        }
        return found;
    }

    private static int applied(char operator, int left, int right) {
        switch (operator) {
            case '+':
                return left + right;
            case '-':
                return left - right;
            case '*':
                return left * right;
            case '/':
                return left / right;
            default:
                return left % right;
        }
    }
}
