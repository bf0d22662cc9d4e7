import java.util.NoSuchElementException;

/**
 * A store of three tables that is asked by statements. A statement is read from typed text,
 * compiled to code for a machine of registers, and run with a parameter over the tables' rows.
 */
public final class QueryStore {
    private static final int TABLES = 3;
    private static final int COLUMNS = 3;
    private static final int ROWS_MOST = 20;
    private static final int PAGE_ROWS = 4;
    private static final int RESULT_MOST = 40;
    private static final int TEXT_MOST = 48;
    private static final int FIRST_CHARACTER = 33;
    private static final int LAST_CHARACTER = 126;
    private static final int DEPTH_MOST = 5;
    private static final int DIGITS_MOST = 4;
    private static final String DIGITS = "0123456789";
    private static final int KEPT_MOST = 4;

    // The registers: the columns a .. f, the parameter, the values of a row, and above each
    // value what is needed to work it out.
    private static final int SECOND_ROW = COLUMNS;
    private static final int PARAMETER = 2 * COLUMNS;
    private static final int VALUES = PARAMETER + 1;
    // A sum takes up to two registers above the one it goes to, at each depth anew.
    private static final int REGISTERS = VALUES + COLUMNS + 2 * DEPTH_MOST;

    // The machine's operations; the reader counts on the order + -, * / % and < = >.
    private static final int NUMBER = 0;
    private static final int COPY = 1;
    private static final int NEGATE = 2;
    private static final int ADD = 3;
    private static final int SUBTRACT = 4;
    private static final int MULTIPLY = 5;
    private static final int DIVIDE = 6;
    private static final int REMAINDER = 7;
    private static final int GO_UNLESS_LESS = 8;
    private static final int GO_UNLESS_EQUAL = 9;
    private static final int GO_UNLESS_GREATER = 10;
    private static final int STOP_MET = 11;
    private static final int STOP_UNMET = 12;

    private static final int NONE = -1;

    private final Table[] tables = new Table[TABLES];
    private final Table[] tablesAtBegin = new Table[TABLES];
    private final Reader reader = new Reader();
    private final Machine machine = new Machine();
    private final Result result = new Result();
    private final Code[] kept = new Code[KEPT_MOST];
    private final boolean[] chosen = new boolean[ROWS_MOST];
    private final int[] newNumbers = new int[ROWS_MOST];
    private Code spare = new Code();
    private boolean begun;
    private int noted;
    private int started;
    private int finished;

    public QueryStore() {
        for (int t = 0; t < TABLES; t++) {
            tables[t] = new Table();
            tablesAtBegin[t] = new Table();
        }
    }

    public int type(long eight) throws IllegalArgumentException, IllegalStateException {
        return reader.add(eight);
    }

    public int keep(int k) throws IllegalArgumentException {
        refuseBadNumber(k);
        reader.read(spare);
        Code code = spare;
        spare = kept[k] == null ? new Code() : kept[k];
        kept[k] = code;
        return code.parameters;
    }

    public int run(int k, int parameter) throws IllegalArgumentException, NoSuchElementException,
            ArithmeticException, IllegalStateException, UnsupportedOperationException {
        refuseBadNumber(k);
        if (kept[k] == null) {
            throw new NoSuchElementException();
        }
        return execute(kept[k], parameter);
    }

    public int ask(int parameter) throws IllegalArgumentException, NoSuchElementException,
            ArithmeticException, IllegalStateException, UnsupportedOperationException {
        reader.read(spare);
        return execute(spare, parameter);
    }

    public int value(int i, int j) throws NoSuchElementException {
        if (i < 0 || i >= result.size() || j < 0 || j >= result.width()) {
            throw new NoSuchElementException();
        }
        return result.get(i, j);
    }

    public int row(int table, int i, int j) throws IllegalArgumentException, NoSuchElementException {
        if (table < 0 || table >= TABLES || j < 0 || j >= COLUMNS) {
            throw new IllegalArgumentException();
        }
        if (i < 0 || i >= tables[table].size()) {
            throw new NoSuchElementException();
        }
        return tables[table].get(i, j);
    }

    public void begin() throws IllegalStateException {
        if (begun) {
            throw new IllegalStateException();
        }
        for (int t = 0; t < TABLES; t++) {
            tablesAtBegin[t].becomeLike(tables[t]);
        }
        begun = true;
    }

    public int end() throws IllegalStateException {
        return stopNoting();
    }

    public int back() throws IllegalStateException {
        int changes = stopNoting();
        for (int t = 0; t < TABLES; t++) {
            tables[t].becomeLike(tablesAtBegin[t]);
        }
        return changes;
    }

    public int count(int what) {
        switch (what) {
            case 0:
                return reader.place();
            case 1:
                return reader.length();
            case 2:
                return statementsKept();
            case 3:
            case 4:
            case 5:
                return tables[what - 3].size();
            case 6:
                return result.size();
            case 7:
                return result.width();
            case 8:
                return begun ? 1 : 0;
            case 9:
                return noted;
            case 10:
                return finished;
            case 11:
                return started - finished;
            default:
                return -1;
        }
    }

    private static void refuseBadNumber(int k) {
        if (k < 0 || k >= KEPT_MOST) {
            throw new IllegalArgumentException();
        }
    }

    private int statementsKept() {
        int found = 0;
        for (int k = 0; k < KEPT_MOST; k++) {
            if (kept[k] != null) {
                found++;
            }
        }
        return found;
    }

    private int stopNoting() {
        if (!begun) {
            throw new IllegalStateException();
        }
        int changes = noted;
        begun = false;
        noted = 0;
        return changes;
    }

    private void note(int changes) {
        if (begun) {
            noted += changes;
        }
    }

    // Whatever throws in here leaves the result empty and the statement started, not finished.
    private int execute(Code code, int parameter) {
        started++;
        result.clear();
        machine.put(PARAMETER, parameter);
        int answer;
        switch (code.kind) {
            case 'I':
                answer = insert(code);
                break;
            case 'D':
                answer = delete(code);
                break;
            case 'U':
                answer = update(code);
                break;
            case 'A':
            case 'B':
                answer = aggregate(code);
                break;
            default:
                answer = select(code);
                break;
        }
        finished++;
        return answer;
    }

    private int insert(Code code) {
        machine.workOut(code);
        Table table = tables[code.first];
        int key = machine.get(VALUES);
        if (table.holds(key) || table.isFull()) {
            throw new IllegalStateException();
        }
        table.insert(key, machine.get(VALUES + 1), machine.get(VALUES + 2));
        note(1);
        return 1;
    }

    private int delete(Code code) {
        Table table = tables[code.first];
        int found = 0;
        for (int i = 0; i < table.size(); i++) {
            chosen[i] = meets(code, i);
            if (chosen[i]) {
                found++;
            }
        }
        // From the last row down, as each removal moves the rows behind it.
        for (int i = table.size() - 1; i >= 0; i--) {
            if (chosen[i]) {
                table.remove(i);
            }
        }
        note(found);
        return found;
    }

    private int update(Code code) {
        Table table = tables[code.first];
        int found = 0;
        for (int i = 0; i < table.size(); i++) {
            chosen[i] = meets(code, i);
            if (chosen[i]) {
                machine.workOut(code);
                newNumbers[i] = machine.get(VALUES);
                found++;
            }
        }
        for (int i = 0; i < table.size(); i++) {
            if (chosen[i]) {
                table.put(i, code.column, newNumbers[i]);
            }
        }
        note(found);
        return found;
    }

    private int select(Code code) {
        int pairs = pairsOf(code);
        for (int pair = 0; pair < pairs; pair++) {
            if (meets(code, pair)) {
                machine.workOut(code);
                result.add(machine, code.order);
            }
        }
        result.show(code.width);
        return result.size();
    }

    private int aggregate(Code code) {
        int pairs = pairsOf(code);
        int found = 0;
        int held = foldOfNone(code.function);
        for (int pair = 0; pair < pairs; pair++) {
            if (meets(code, pair)) {
                machine.workOut(code);
                held = fold(code.function, held, machine.get(VALUES));
                found++;
            }
        }
        if (found == 0 && (code.function == '<' || code.function == '>')) {
            throw new NoSuchElementException();
        }
        machine.put(VALUES, held);
        result.add(machine, NONE);
        result.show(1);
        return 1;
    }

    private static int foldOfNone(int function) {
        if (function == '>') {
            return Integer.MIN_VALUE;
        }
        return function == '<' ? Integer.MAX_VALUE : 0;
    }

    private static int fold(int function, int held, int next) {
        switch (function) {
            case '+':
                return held + next;
            case '#':
                return held + 1;
            case '>':
                return Math.max(held, next);
            default:
                return Math.min(held, next);
        }
    }

    // A statement over one table goes through its rows as through pairs with a single other one.
    private int rowsBeside(Code code) {
        return code.second == NONE ? 1 : tables[code.second].size();
    }

    private int pairsOf(Code code) {
        return tables[code.first].size() * rowsBeside(code);
    }

    /** Puts the columns of the pair into the machine, where they stay for its values. */
    private boolean meets(Code code, int pair) {
        int beside = rowsBeside(code);
        if (beside == 0) {
            return false;
        }
        machine.load(tables[code.first], pair / beside, 0);
        if (code.second != NONE) {
            machine.load(tables[code.second], pair % beside, SECOND_ROW);
        }
        return machine.meetsTest(code);
    }

    /** A leaf of a table's tree: up to PAGE_ROWS rows by rising key. */
    private static final class Page {
        private final int[] cells = new int[PAGE_ROWS * COLUMNS];
        private int size;

        int size() {
            return size;
        }

        boolean isFull() {
            return size == PAGE_ROWS;
        }

        int get(int slot, int column) {
            return cells[slot * COLUMNS + column];
        }

        void put(int slot, int column, int number) {
            cells[slot * COLUMNS + column] = number;
        }

        void copyRow(int slot, int[] target, int from) {
            System.arraycopy(cells, slot * COLUMNS, target, from, COLUMNS);
        }

        boolean holds(int key) {
            for (int slot = 0; slot < size; slot++) {
                if (get(slot, 0) == key) {
                    return true;
                }
            }
            return false;
        }

        void insert(int a, int b, int c) {
            int slot = size;
            while (slot > 0 && get(slot - 1, 0) > a) {
                slot--;
            }
            moveRows(slot, slot + 1, size - slot);
            put(slot, 0, a);
            put(slot, 1, b);
            put(slot, 2, c);
            size++;
        }

        void remove(int slot) {
            moveRows(slot + 1, slot, size - slot - 1);
            size--;
        }

        void giveUpperHalf(Page empty) {
            int stay = size / 2;
            empty.size = size - stay;
            System.arraycopy(cells, stay * COLUMNS, empty.cells, 0, empty.size * COLUMNS);
            size = stay;
        }

        void becomeLike(Page other) {
            System.arraycopy(other.cells, 0, cells, 0, cells.length);
            size = other.size;
        }

        private void moveRows(int from, int to, int rows) {
            System.arraycopy(cells, from * COLUMNS, cells, to * COLUMNS, rows * COLUMNS);
        }
    }

    /**
     * The root of a tree of pages, which hold the rows by rising key. No page in use is empty,
     * so that there are never more of them than rows.
     */
    private static final class Table {
        private final Page[] pages = new Page[ROWS_MOST];
        private int used;
        private int size;

        Table() {
            for (int p = 0; p < ROWS_MOST; p++) {
                pages[p] = new Page();
            }
        }

        int size() {
            return size;
        }

        boolean isFull() {
            return size == ROWS_MOST;
        }

        boolean holds(int key) {
            return used > 0 && pages[pageFor(key)].holds(key);
        }

        int get(int i, int column) {
            int spot = spotOf(i);
            return pages[spot / PAGE_ROWS].get(spot % PAGE_ROWS, column);
        }

        void put(int i, int column, int number) {
            int spot = spotOf(i);
            pages[spot / PAGE_ROWS].put(spot % PAGE_ROWS, column, number);
        }

        void copyRow(int i, int[] target, int from) {
            int spot = spotOf(i);
            pages[spot / PAGE_ROWS].copyRow(spot % PAGE_ROWS, target, from);
        }

        /** Only for a key that isn't there, in a table that isn't full. */
        void insert(int a, int b, int c) {
            if (used == 0) {
                openPage(0);
            }
            int p = pageFor(a);
            if (pages[p].isFull()) {
                openPage(p + 1);
                pages[p].giveUpperHalf(pages[p + 1]);
                p = pageFor(a);
            }
            pages[p].insert(a, b, c);
            size++;
        }

        void remove(int i) {
            int spot = spotOf(i);
            int p = spot / PAGE_ROWS;
            pages[p].remove(spot % PAGE_ROWS);
            if (pages[p].size() == 0) {
                closePage(p);
            }
            size--;
        }

        void becomeLike(Table other) {
            for (int p = 0; p < ROWS_MOST; p++) {
                pages[p].becomeLike(other.pages[p]);
            }
            used = other.used;
            size = other.size;
        }

        // The last page that begins at the key or before it, or else the first page.
        private int pageFor(int key) {
            int p = used - 1;
            while (p > 0 && pages[p].get(0, 0) > key) {
                p--;
            }
            return p;
        }

        private int spotOf(int i) {
            int p = 0;
            int slot = i;
            while (p < used - 1 && slot >= pages[p].size()) {
                slot -= pages[p].size();
                p++;
            }
            return p * PAGE_ROWS + slot;
        }

        private void openPage(int at) {
            Page fresh = pages[used];
            for (int p = used; p > at; p--) {
                pages[p] = pages[p - 1];
            }
            pages[at] = fresh;
            used++;
        }

        private void closePage(int at) {
            Page empty = pages[at];
            used--;
            for (int p = at; p < used; p++) {
                pages[p] = pages[p + 1];
            }
            pages[used] = empty;
        }
    }

    /**
     * A STATEMENT, compiled: code for the values from 0 on and, where it has a condition, code
     * for that from test on.
     */
    private static final class Code {
        private final int[] operations = new int[TEXT_MOST];
        private final int[] registers = new int[TEXT_MOST];
        private final int[] operands = new int[TEXT_MOST];
        private int size;
        private int kind;
        private int first;
        private int second;
        private int column;
        private int function;
        private int width;
        private int order;
        private int test;
        private int parameters;

        void clear() {
            size = 0;
            kind = 0;
            first = 0;
            second = NONE;
            column = 0;
            function = 0;
            width = 0;
            order = NONE;
            test = NONE;
            parameters = 0;
        }

        // Each instruction has a character of the text to itself, so all of them find a place.
        void add(int operation, int register, int operand) {
            if (size < TEXT_MOST) {
                operations[size] = operation;
                registers[size] = register;
                operands[size] = operand;
                size++;
            }
        }

        void setJumpsFrom(int from) {
            for (int at = from; at < size; at++) {
                if (operations[at] >= GO_UNLESS_LESS && operations[at] <= GO_UNLESS_GREATER) {
                    operands[at] = size;
                }
            }
        }
    }

    /** Holds THE TEXT and reads it: one method for each form of the grammar. */
    private static final class Reader {
        private final char[] text = new char[TEXT_MOST];
        private int length;
        private int end;
        private int at;
        private int place = NONE;
        private Code code;
        private String columns = "";

        int length() {
            return length;
        }

        int place() {
            return place;
        }

        int add(long eight) {
            if (length + charactersIn(eight) > TEXT_MOST) {
                throw new IllegalStateException();
            }
            for (int shift = 56; shift >= 0; shift -= 8) {
                int c = byteAt(eight, shift);
                if (c != 0) {
                    text[length++] = (char) c;
                }
            }
            return length;
        }

        private static int charactersIn(long eight) {
            int found = 0;
            for (int shift = 56; shift >= 0; shift -= 8) {
                int c = byteAt(eight, shift);
                if (c != 0) {
                    if (c < FIRST_CHARACTER || c > LAST_CHARACTER) {
                        throw new IllegalArgumentException();
                    }
                    found++;
                }
            }
            return found;
        }

        private static int byteAt(long eight, int shift) {
            return (int) (eight >>> shift) & 255;
        }

        void read(Code target) {
            code = target;
            code.clear();
            at = 0;
            end = length;
            length = 0;
            readHead();
            switch (code.kind) {
                case 'I':
                    readNewRow();
                    break;
                case 'D':
                    break;
                case 'U':
                    readChange();
                    break;
                case 'A':
                case 'B':
                    readFold();
                    break;
                default:
                    readList();
                    break;
            }
            code.add(STOP_MET, 0, 0);
            if (code.kind != 'I' && sees("[")) {
                readCondition();
            }
            if ((code.kind == 'S' || code.kind == 'P') && sees("^")) {
                readOrder();
            }
            if (at < end) {
                refuse();
            }
        }

        private void readHead() {
            code.kind = take("IDUSPAB");
            code.first = take("012") - '0';
            columns = code.kind == 'I' ? "" : "abc";
            if (code.kind == 'P' || code.kind == 'B') {
                code.second = take("012") - '0';
                columns = "abcdef";
            }
        }

        private void readNewRow() {
            take("(");
            readSum(VALUES, 1);
            take(",");
            readSum(VALUES + 1, 1);
            take(",");
            readSum(VALUES + 2, 1);
            take(")");
        }

        private void readChange() {
            code.column = take("bc") - 'a';
            take("=");
            readSum(VALUES, 1);
        }

        private void readFold() {
            code.function = take("+#><");
            readSum(VALUES, 1);
        }

        private void readList() {
            readSum(VALUES, 1);
            code.width = 1;
            while (code.width < COLUMNS && sees(",")) {
                take(",");
                readSum(VALUES + code.width, 1);
                code.width++;
            }
        }

        // A comparison that fails goes on behind its AND: with the next one or at the end.
        // What it works out lies where the values will: these come up later.
        private void readCondition() {
            code.test = code.size;
            int and = code.size;
            take("[");
            boolean more = true;
            for (int comparisons = 0; comparisons < TEXT_MOST && more; comparisons++) {
                readSum(VALUES, 1);
                int sign = "<=>".indexOf(take("<=>"));
                readSum(VALUES + 1, 1);
                code.add(GO_UNLESS_LESS + sign, VALUES, 0);
                if (!sees("&")) {
                    code.add(STOP_MET, 0, 0);
                    code.setJumpsFrom(and);
                    and = code.size;
                }
                more = sees("&|");
                take(more ? "&|" : "]");
            }
            code.add(STOP_UNMET, 0, 0);
        }

        private void readOrder() {
            take("^");
            code.order = take(columns) - 'a';
        }

        private void readSum(int register, int depth) {
            readTerm(register, depth);
            for (int more = 0; more < TEXT_MOST && sees("+-"); more++) {
                int operation = ADD + "+-".indexOf(take("+-"));
                readTerm(register + 1, depth);
                code.add(operation, register, 0);
            }
        }

        private void readTerm(int register, int depth) {
            readUnit(register, depth);
            for (int more = 0; more < TEXT_MOST && sees("*/%"); more++) {
                int operation = MULTIPLY + "*/%".indexOf(take("*/%"));
                readUnit(register + 1, depth);
                code.add(operation, register, 0);
            }
        }

        private void readUnit(int register, int depth) {
            if (sees(DIGITS)) {
                code.add(NUMBER, register, takeNumber());
            } else if (sees(columns)) {
                code.add(COPY, register, take(columns) - 'a');
            } else if (sees("?")) {
                take("?");
                code.parameters++;
                code.add(COPY, register, PARAMETER);
            } else if (depth < DEPTH_MOST && sees("-")) {
                take("-");
                readUnit(register, depth + 1);
                code.add(NEGATE, register, 0);
            } else if (depth < DEPTH_MOST && sees("(")) {
                take("(");
                readSum(register, depth + 1);
                take(")");
            } else {
                refuse();
            }
        }

        private int takeNumber() {
            int number = 0;
            for (int digits = 0; digits < DIGITS_MOST && at < end && isDigit(text[at]); digits++) {
                number = number * 10 + text[at] - '0';
                at++;
            }
            return number;
        }

        private static boolean isDigit(char c) {
            return c >= '0' && c <= '9';
        }

        private boolean sees(String allowed) {
            return at < end && allowed.indexOf(text[at]) >= 0;
        }

        private char take(String allowed) {
            if (at >= end || allowed.indexOf(text[at]) < 0) {
                refuse();
            }
            return text[at++];
        }

        private void refuse() {
            place = at;
            throw new IllegalArgumentException();
        }
    }

    /** Carries out code; two operands stand in the register that is named and the next one. */
    private static final class Machine {
        private final int[] registers = new int[REGISTERS];

        int get(int register) {
            return registers[register];
        }

        void put(int register, int number) {
            registers[register] = number;
        }

        void load(Table table, int i, int from) {
            table.copyRow(i, registers, from);
        }

        boolean meetsTest(Code code) {
            return code.test == NONE || carryOut(code, code.test);
        }

        void workOut(Code code) {
            carryOut(code, 0);
        }

        // Jumps only go forward, so that no instruction comes up twice.
        private boolean carryOut(Code code, int from) {
            int at = from;
            for (int steps = 0; steps < TEXT_MOST && at < code.size; steps++) {
                int operation = code.operations[at];
                int register = code.registers[at];
                if (operation == STOP_MET || operation == STOP_UNMET) {
                    return operation == STOP_MET;
                }
                if (operation < GO_UNLESS_LESS) {
                    registers[register] = outcome(operation, register, code.operands[at]);
                    at++;
                } else {
                    at = compares(operation, register) ? at + 1 : code.operands[at];
                }
            }
            return false;
        }

        private int outcome(int operation, int register, int operand) {
            switch (operation) {
                case NUMBER:
                    return operand;
                case COPY:
                    return registers[operand];
                case NEGATE:
                    return -registers[register];
                case ADD:
                    return registers[register] + registers[register + 1];
                case SUBTRACT:
                    return registers[register] - registers[register + 1];
                case MULTIPLY:
                    return registers[register] * registers[register + 1];
                default:
                    return divide(operation, registers[register], registers[register + 1]);
            }
        }

        private static int divide(int operation, int dividend, int divisor) {
            if (divisor == 0) {
                throw new ArithmeticException();
            }
            return operation == DIVIDE ? dividend / divisor : dividend % divisor;
        }

        private boolean compares(int operation, int register) {
            int left = registers[register];
            int right = registers[register + 1];
            switch (operation) {
                case GO_UNLESS_LESS:
                    return left < right;
                case GO_UNLESS_EQUAL:
                    return left == right;
                default:
                    return left > right;
            }
        }
    }

    /** THE RESULT: rows come in unseen and are shown all at once, when nothing can throw any more. */
    private static final class Result {
        private final int[] cells = new int[RESULT_MOST * COLUMNS];
        private final int[] orders = new int[RESULT_MOST];
        private final int[] places = new int[RESULT_MOST];
        private int filled;
        private int size;
        private int width;

        int size() {
            return size;
        }

        int width() {
            return size == 0 ? 0 : width;
        }

        int get(int i, int j) {
            return cells[places[i] * COLUMNS + j];
        }

        void clear() {
            filled = 0;
            size = 0;
        }

        /** Adds the machine's values behind all rows whose ordering register held no more. */
        void add(Machine machine, int order) {
            if (filled == RESULT_MOST) {
                throw new UnsupportedOperationException();
            }
            int mark = order == NONE ? 0 : machine.get(order);
            int at = filled;
            while (at > 0 && orders[places[at - 1]] > mark) {
                places[at] = places[at - 1];
                at--;
            }
            places[at] = filled;
            orders[filled] = mark;
            for (int j = 0; j < COLUMNS; j++) {
                cells[filled * COLUMNS + j] = machine.get(VALUES + j);
            }
            filled++;
        }

        void show(int valuesEach) {
            size = filled;
            width = valuesEach;
        }
    }
}
