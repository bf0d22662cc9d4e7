import java.util.ArrayDeque;
import java.util.ArrayList;
import java.util.Deque;
import java.util.HashMap;
import java.util.HashSet;
import java.util.List;
import java.util.Map;
import java.util.Set;

/**
 * The document's grammar written down as rules, and two things done with them that share nothing
 * with the reader: finding THE PLACE by following every way to read a text at once, and making
 * statements at random. A symbol of one character stands for itself, one in &lt;&gt; for a rule.
 */
final class Grammar {
    private static final int DEPTH = 5;
    private final Map<String, List<List<String>>> rules = new HashMap<>();

    Grammar() {
        String[] columns = {"", "abc", "abcdef"};
        for (int v = 0; v < columns.length; v++) {
            addExpressions(v, columns[v]);
            addConditions(v, columns[v]);
        }
        addStatements();
    }

    private void addExpressions(int v, String columns) {
        for (int depth = 1; depth <= DEPTH; depth++) {
            String d = depth + "" + v;
            String deeper = depth + 1 + "" + v;
            rule("E" + d, "<T" + d + "><ET" + d + ">");
            rule("ET" + d, "", "+<T" + d + "><ET" + d + ">", "-<T" + d + "><ET" + d + ">");
            rule("T" + d, "<U" + d + "><TT" + d + ">");
            rule("TT" + d, "", "*<U" + d + "><TT" + d + ">", "/<U" + d + "><TT" + d + ">",
                    "%<U" + d + "><TT" + d + ">");
            rule("U" + d, "?", "<DIGIT><DIGITS3>");
            for (char c : columns.toCharArray()) {
                rule("U" + d, String.valueOf(c));
            }
            if (depth < DEPTH) {
                rule("U" + d, "-<U" + deeper + ">", "(<E" + deeper + ">)");
            }
        }
    }

    private void addConditions(int v, String columns) {
        rule("COMP" + v, "<E1" + v + "><SIGN><E1" + v + ">");
        rule("AND" + v, "<COMP" + v + "><MOREAND" + v + ">");
        rule("MOREAND" + v, "", "&<COMP" + v + "><MOREAND" + v + ">");
        rule("C" + v, "", "[<AND" + v + "><MOREC" + v + ">]");
        rule("MOREC" + v, "", "|<AND" + v + "><MOREC" + v + ">");
        rule("LIST" + v, "<E1" + v + ">", "<E1" + v + ">,<E1" + v + ">", "<E1" + v + ">,<E1" + v + ">,<E1" + v + ">");
        rule("ORDER" + v, "");
        for (char c : columns.toCharArray()) {
            rule("ORDER" + v, "^" + c);
        }
    }

    private void addStatements() {
        rule("SIGN", "<LESS>", "=", "<GREATER>");
        rule("F", "+", "#", "<LESS>", "<GREATER>");
        rule("TABLE", "0", "1", "2");
        for (char c = '0'; c <= '9'; c++) {
            rule("DIGIT", String.valueOf(c));
        }
        rule("DIGITS3", "", "<DIGIT><DIGITS2>");
        rule("DIGITS2", "", "<DIGIT><DIGITS1>");
        rule("DIGITS1", "", "<DIGIT>");
        rule("X", "b", "c");
        rule("START", "I<TABLE>(<E10>,<E10>,<E10>)", "D<TABLE><C1>", "U<TABLE><X>=<E11><C1>",
                "S<TABLE><LIST1><C1><ORDER1>", "P<TABLE><TABLE><LIST2><C2><ORDER2>",
                "A<TABLE><F><E11><C1>", "B<TABLE><TABLE><F><E12><C2>");
        rules.put("<LESS>", List.of(List.of("<")));
        rules.put("<GREATER>", List.of(List.of(">")));
    }

    private void rule(String name, String... ways) {
        List<List<String>> all = rules.computeIfAbsent("<" + name + ">", key -> new ArrayList<>());
        for (String way : ways) {
            List<String> symbols = new ArrayList<>();
            for (int at = 0; at < way.length(); at++) {
                int to = way.charAt(at) == '<' ? way.indexOf('>', at) : at;
                symbols.add(way.substring(at, to + 1));
                at = to;
            }
            all.add(symbols);
        }
    }

    /** The place of a text that is no statement, or -1 for a statement. */
    int placeOf(String text) {
        Set<List<String>> stacks = opened(Set.of(List.of("<START>")));
        for (int at = 0; at < text.length(); at++) {
            Set<List<String>> next = new HashSet<>();
            for (List<String> stack : stacks) {
                if (!stack.isEmpty() && stack.get(0).equals(text.substring(at, at + 1))) {
                    next.add(stack.subList(1, stack.size()));
                }
            }
            if (next.isEmpty()) {
                return at;
            }
            stacks = opened(next);
        }
        return stacks.contains(List.of()) ? -1 : text.length();
    }

    // All stacks that begin with a character (or are empty) to which these can be opened.
    private Set<List<String>> opened(Set<List<String>> stacks) {
        Set<List<String>> found = new HashSet<>();
        Deque<List<String>> waiting = new ArrayDeque<>(stacks);
        while (!waiting.isEmpty()) {
            List<String> stack = waiting.remove();
            List<List<String>> ways = stack.isEmpty() ? null : rules.get(stack.get(0));
            if (ways == null) {
                found.add(stack);
                continue;
            }
            for (List<String> way : ways) {
                List<String> longer = new ArrayList<>(way);
                longer.addAll(stack.subList(1, stack.size()));
                waiting.add(longer);
            }
        }
        return found;
    }

    /** A statement of at most 48 characters. */
    String statement(Dice dice) {
        while (true) {
            StringBuilder text = new StringBuilder();
            write("<START>", dice, text);
            if (text.length() <= 48) {
                return text.toString();
            }
        }
    }

    private void write(String symbol, Dice dice, StringBuilder text) {
        List<List<String>> ways = rules.get(symbol);
        if (ways == null) {
            text.append(symbol);
        } else if (text.length() <= 48) {
            boolean canStop = ways.get(0).isEmpty() && !symbol.startsWith("<C") && !symbol.startsWith("<ORDER");
            int way = canStop && dice.below(10) < 6 ? 0 : dice.below(ways.size());
            for (String part : ways.get(way)) {
                write(part, dice, text);
            }
        }
    }
}
