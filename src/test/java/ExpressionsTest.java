/** Terms: E, TERM and UNIT. */
public final class ExpressionsTest {
    private static final String WHERE = "Terms, E";
    // Every place where an E may stand: what is before it and what is behind it.
    private static final String[] PLACES = {
        "I0(", ",1,1)", "I0(1,", ",1)", "I0(1,1,", ")", "D0[", "=1]", "D0[1=", "]", "D0[1=1&1<", "]", "D0[1=2|", ">1]",
        "U0b=", "", "U0c=", "[1=1]", "S0", "", "S01,", "", "S01,2,", "^a", "P01", "", "P011,2,", "[1=1]",
        "P01a[", "<1]", "A0+", "", "A0#", "[1=1]", "B01<", "", "B01>1[1=", "]",
    };

    public static void main(String[] args) {
        Checks checks = new Checks();
        checks.sentence(WHERE, "E: TERM ((+ or -) TERM)*", ExpressionsTest::sums);
        checks.sentence(WHERE, "TERM: UNIT ((* or / or %) UNIT)*", ExpressionsTest::terms);
        checks.sentence(WHERE, "UNIT: - UNIT", ExpressionsTest::minus);
        checks.sentence(WHERE, "one to four digits", ExpressionsTest::oneToFourDigits);
        checks.sentence(WHERE, "?, the parameter", ExpressionsTest::parameter);
        checks.sentence(WHERE, "( E )", ExpressionsTest::parentheses);
        checks.sentence(WHERE, "Ints, wrapping", ExpressionsTest::wrapping);
        checks.sentence(WHERE, "/ and % towards zero", ExpressionsTest::towardsZero);
        checks.sentence(WHERE, "by 0: ArithmeticException", ExpressionsTest::byZero);
        checks.sentence(WHERE, "UNITS stand at most 5 deep in one another", ExpressionsTest::fiveDeep);
        checks.sentence(WHERE, "UNITS stand at most 5 deep in one another", ExpressionsTest::fiveDeepWorkedOut);
        checks.finish();
    }

    private static void values(Checks checks, int parameter, String... due) {
        QueryStore store = Checks.storeWith(1, "8,0,-3");
        for (int i = 0; i < due.length; i += 2) {
            checks.gives(store, "S1" + due[i], parameter, 1, due[i + 1]);
        }
    }

    private static void sums(Checks checks) {
        values(checks, 0, "2+3", "5", "20-5-3", "12", "7-2+1", "6", "7-(2+1)", "4", "a-c+b", "11", "0-9999", "-9999",
                "1+2+3+4+5+6+7+8+9", "45");
        checks.refuses("S0+1", 2);
        checks.refuses("S01+", 4);
        checks.refuses("S01-", 4);
        checks.refuses("S01++1", 4);
        checks.refuses("S01-+1", 4);
        checks.refuses("S0ab", 3);
        checks.refuses("S0a1", 3);
        checks.refuses("S01a", 3);
    }

    private static void terms(Checks checks) {
        values(checks, 0, "2+3*4", "14", "2*3+4", "10", "100/5/2", "10", "100/(5/2)", "50", "17%5*2", "4",
                "2*17%5", "4", "2-3*4-5", "-15", "a*c", "-24", "9*8-(7*6-(5*4-(3*2-1*0)))", "44", "100%7%2", "0");
        checks.refuses("S0*1", 2);
        checks.refuses("S01*", 4);
        checks.refuses("S01/", 4);
        checks.refuses("S01%", 4);
        checks.refuses("S01*/1", 4);
        checks.refuses("S01+*1", 4);
    }

    private static void minus(Checks checks) {
        values(checks, 0, "-7", "-7", "--4", "4", "---4", "-4", "----4", "4", "1--1", "2", "1---1", "0", "-2*-3", "6",
                "-(1-4)", "3", "-3+5", "2", "3*-2+1", "-5", "-3%2-1", "-2", "-a", "-8", "-c", "3", "-0", "0");
        values(checks, Checks.LEAST, "-?/2", "-1073741824", "-(?/2)", "1073741824", "-?%3", "-2", "-(?%3)", "2");
        checks.refuses("S0-", 3);
        checks.refuses("S0--", 4);
        checks.refuses("S0-+1", 3);
    }

    private static void oneToFourDigits(Checks checks) {
        values(checks, 0, "0", "0", "9", "9", "10", "10", "999", "999", "1000", "1000", "9999", "9999", "0000", "0",
                "0012", "12", "9999-9998", "1");
        for (int i = 0; i < PLACES.length; i += 2) {
            checks.reads(PLACES[i] + "1" + PLACES[i + 1]);
            checks.reads(PLACES[i] + "1234" + PLACES[i + 1]);
            checks.refuses(PLACES[i] + "12345" + PLACES[i + 1], PLACES[i].length() + 4);
            checks.refuses(PLACES[i] + "00000" + PLACES[i + 1], PLACES[i].length() + 4);
            checks.refuses(PLACES[i] + PLACES[i + 1], PLACES[i].length());
            checks.refuses(PLACES[i] + "1+99990" + PLACES[i + 1], PLACES[i].length() + 6);
        }
    }

    private static void parameter(Checks checks) {
        int[] parameters = {0, 1, -1, Checks.LEAST, Checks.GREATEST};
        for (int parameter : parameters) {
            values(checks, parameter, "?", String.valueOf(parameter), "?-?", "0", "?+?-?", String.valueOf(parameter));
        }
        checks.refuses("S0??", 3);
        checks.refuses("S0?1", 3);
        checks.refuses("S01?", 3);
    }

    private static void parentheses(Checks checks) {
        values(checks, 0, "(2+3)*4", "20", "(5)", "5", "1+(2+(3+(4+5)))", "15", "1+2*(3+4*(5+6*(7+8*9)))", "3839",
                "(1)+(2)*(3)", "7", "(a)%(c)", "2");
        checks.refuses("S0()", 3);
        checks.refuses("S0(", 3);
        checks.refuses("S0(1", 4);
        checks.refuses("S0(1))", 5);
        checks.refuses("S01)", 3);
        checks.refuses("S0(1)1", 5);
        checks.refuses("S0(1)(1)", 5);
        checks.refuses("S0(1,2)", 4);
        checks.refuses("S0(1=1)", 4);
    }

    private static void wrapping(Checks checks) {
        String least = "-2147483648";
        String greatest = "2147483647";
        values(checks, Checks.GREATEST, "?+1", least, "?+?", "-2", "?*2", "-2", "?*?", "1", "0-?-2", greatest,
                "-?-1", least, "?/1", greatest, "?%?", "0");
        values(checks, Checks.LEAST, "?-1", greatest, "-?", least, "0-?", least, "?*-1", least, "?/-1", least,
                "?%-1", "0", "?*?", "0", "?+?", "0", "?/2", "-1073741824", "--?", least, "-(?+1)", greatest,
                "?/?", "1");
        values(checks, 0, "9999*9999*9999", String.valueOf(9999 * 9999 * 9999),
                "9999*9999*22", String.valueOf(9999 * 9999 * 22), "-9999*9999*22", String.valueOf(-9999 * 9999 * 22));
        QueryStore store = new QueryStore();
        checks.gives(store, "I0(?+1,?+2,?*2)", Checks.GREATEST, 1, "");
        checks.gives(store, "U0b=b-2", 0, 1, "");
        checks.sameText("rows", Checks.rows(store, 0), least + "," + greatest + ",-2");
        checks.gives(store, "S0a[b+1<0&b+1=a]", 0, 1, least);
    }

    private static void towardsZero(Checks checks) {
        values(checks, 0, "7/2", "3", "-7/2", "-3", "7/-2", "-3", "-7/-2", "3", "7%2", "1", "-7%2", "-1", "7%-2", "1",
                "-7%-2", "-1", "1/2", "0", "-1/2", "0", "0/5", "0", "0%5", "0", "-6/3", "-2", "-6%3", "0",
                "-1%9999", "-1");
    }

    private static void byZero(Checks checks) {
        QueryStore store = Checks.storeWith(1, "8,0,-3");
        String[] divisors = {"0", "0000", "b", "?", "(a-8)", "-0", "(1/2)", "(3+c)"};
        for (String divisor : divisors) {
            checks.fails(store, "S11/" + divisor, 0, Checks.ARITHMETIC);
            checks.fails(store, "S11%" + divisor, 0, Checks.ARITHMETIC);
            checks.fails(store, "S10/" + divisor, 0, Checks.ARITHMETIC);
            checks.fails(store, "S1a,b%" + divisor, 0, Checks.ARITHMETIC);
        }
        for (int i = 0; i < PLACES.length; i += 2) {
            String text = (PLACES[i] + "7/?" + PLACES[i + 1]).replace("P01", "P11").replace("B01", "B11");
            String inTable = text.charAt(0) + "1" + text.substring(2);
            checks.fails(store, inTable, 0, Checks.ARITHMETIC);
            checks.fails(store, inTable.replace('/', '%'), 0, Checks.ARITHMETIC);
        }
        checks.sameText("rows", Checks.rows(store, 1), "8,0,-3");
        checks.gives(store, "S10/1,0%1,?/a", Checks.LEAST, 1, "0,0,-268435456");
    }

    // All ways to open so many units with - and (, with a number inside and all of them closed.
    private static void fiveDeep(Checks checks) {
        for (int opened = 1; opened <= 5; opened++) {
            for (int way = 0; way < 1 << opened; way++) {
                String before = "";
                String after = "";
                for (int bit = 0; bit < opened; bit++) {
                    boolean minus = (way >> bit & 1) == 0;
                    before += minus ? "-" : "(";
                    after += minus ? "" : ")";
                }
                if (opened < 5) {
                    checks.reads("S0" + before + "1" + after);
                } else {
                    checks.refuses("S0" + before + "1" + after, 6);
                }
            }
        }
        for (int i = 0; i < PLACES.length; i += 2) {
            int at = PLACES[i].length();
            checks.reads(PLACES[i] + "((((1))))+----1*(-(-1))" + PLACES[i + 1]);
            checks.reads(PLACES[i] + "((((1+2*3-4))))" + PLACES[i + 1]);
            checks.refuses(PLACES[i] + "(((((1)))))" + PLACES[i + 1], at + 4);
            checks.refuses(PLACES[i] + "-----1" + PLACES[i + 1], at + 4);
            checks.refuses(PLACES[i] + "((((1*(1)))))" + PLACES[i + 1], at + 6);
            checks.refuses(PLACES[i] + "1-((((1--1))))" + PLACES[i + 1], at + 8);
        }
    }

    private static void fiveDeepWorkedOut(Checks checks) {
        values(checks, 0, "((((5))))", "5", "----5", "5", "-(-(5))", "5", "-(-(5-1))", "4",
                "1+2*(3+4*(5+6*(7+8*(9+1*2))))", "4607", "7,8,1+2*(3+4*(5+6*(7+8*(9+1*2))))", "7,8,4607",
                "9-1*(7-2*(5-3*(3-4*(1-5*2))))", "-222");
        QueryStore store = Checks.storeWith(1, "8,0,-3");
        checks.gives(store, "S1a[7=8|1+2*(3+4*(5+6*(7+8*(9+1*2))))<?]", 4608, 1, "8");
        checks.gives(store, "S1a[0+?=1+2*(3+4*(5+6*(7+8*(9+1*2))))]", 4607, 1, "8");
    }
}
