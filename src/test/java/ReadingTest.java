/** Terms: READING and THE PLACE. */
public final class ReadingTest {
    private static final String WHERE = "Terms, READING";

    // Statements of every kind; every beginning of one could go on to be a statement.
    private static final String[] STATEMENTS = {
        "I0(1,2,3)", "I2(-?,(1+2)*3,9999%-7)", "D0", "D1[a=?]", "D2[a<1&b=2|c>3&?=?]", "U0b=1", "U1c=a*-b[c>0|a=b]",
        "S0a", "S1a,b+1,-c[a<b&b<c|1=1]^c", "S2((((1))))+----1", "P01a", "P21a*d,b-e,c%f[a=d|b>e&c<f]^f",
        "A0+a", "A1#1[b=2]", "A2>-(c)", "B01<a-d", "B20>(e)[(f)=0]", "S01234+5678*9012",
        "D0[0=1|0=1|0=1|0=1|0=1|0=1|0=1|0=1|0=1|0=1|0=1]",
    };

    // A text with a character that can't stand where it does, what comes behind that one being
    // as it may, and the place.
    private static final String[] FIRST_CHARACTERS = {
        "X", "0", "i0(1,1,1)", "0", "0D", "0", "I3", "1", "Ia", "1", "ID0", "1", "I01", "2", "I0()", "3",
        "I0(1,2)", "6", "I0(1,2,3,", "8", "I0(1,2,3)[1=1]", "9", "I0(a,b,1)", "3", "I0(1,1+b,c)", "7", "I0(1;1;1)", "4",
        "D9", "1", "D0a", "2", "D0D0", "2", "D0[]", "3", "D0[1]", "4", "D0[1<]", "5", "D0[1<2]]", "7", "D0[1<2]^a", "7",
        "D0[1<=2]", "5", "D0[1<2&]", "7", "D0[d=e]", "3", "D0[(1<2)]", "5", "U0a=1", "2", "U0d=1", "2", "U0b1", "3",
        "U0b==1", "4", "U0b=1,2", "5", "U0b=1^a", "5", "S0,a", "2", "S0a,b,c,a", "7", "S0a^d", "4", "S0a^1", "4",
        "S0a^a^b", "5", "S0a^a[1=1]", "5", "S0a[1=1][1=1]", "8", "S0d", "2", "S0ab", "3", "S01a", "3", "S0+1", "2",
        "S01+*1", "4", "S0(1))", "5", "S0?1", "3", "S0#", "2", "P0a", "2", "P03", "2", "P01g", "3", "P01a^g", "5",
        "A0a", "2", "A0-a", "2", "A0++1", "3", "A0+a,b", "4", "A0+a^a", "4", "A0+d", "3", "B0+a", "2", "B01a", "3",
        "B01>g", "4", "B01#a^a", "5", "S0a;;;", "3", "S0a[b=;]^;", "6", "~~~~", "0", "S0!~", "2",
    };

    public static void main(String[] args) {
        Checks checks = new Checks();
        checks.sentence(WHERE, "THE PLACE is that of the first character of the text with which, after those before, "
                + "no STATEMENT could begin", ReadingTest::firstCharacters);
        checks.sentence(WHERE, "after those before, no STATEMENT could begin", ReadingTest::behindStatements);
        checks.sentence(WHERE, "no STATEMENT could begin", ReadingTest::firstOfAll);
        checks.sentence(WHERE, "the digits' fifth", ReadingTest::fifthDigit);
        checks.sentence(WHERE, "and at depth 5 - and ( are such, too", ReadingTest::depthFive);
        checks.sentence(WHERE, "or its length, if just the end is wrong", ReadingTest::beginnings);
        checks.sentence(WHERE, "or its length", ReadingTest::emptyAndFullTexts);
        checks.finish();
    }

    private static void firstCharacters(Checks checks) {
        for (int i = 0; i < FIRST_CHARACTERS.length; i += 2) {
            checks.refuses(FIRST_CHARACTERS[i], Integer.parseInt(FIRST_CHARACTERS[i + 1]));
        }
    }

    // Characters that stand nowhere in a statement, behind every beginning of one.
    private static void behindStatements(Checks checks) {
        char[] strange = "!\"$'.:;@CTZ\\_`gx{}~".toCharArray();
        for (int n = 0; n < STATEMENTS.length; n++) {
            for (int length = 0; length <= STATEMENTS[n].length() && length < 46; length++) {
                char c = strange[(n + length) % strange.length];
                checks.refuses(STATEMENTS[n].substring(0, length) + c, length);
                checks.refuses(STATEMENTS[n].substring(0, length) + c + c + "0", length);
            }
        }
    }

    private static void firstOfAll(Checks checks) {
        for (char c = 33; c <= 126; c++) {
            checks.refuses(String.valueOf(c), "IDUSPAB".indexOf(c) < 0 ? 0 : 1);
        }
    }

    private static void fifthDigit(Checks checks) {
        checks.reads("S01234");
        checks.refuses("S012345", 6);
        checks.refuses("S0123456789", 6);
        checks.refuses("S000000", 6);
        checks.refuses("S01234a", 6);
        checks.reads("S01234+12");
        checks.refuses("S0a[1<99999]", 10);
        checks.refuses("S0a,b,-(12345)", 12);
        checks.refuses("I0(1,2,00001)", 11);
        checks.refuses("U0b=10000", 8);
        checks.refuses("P0112345", 7);
        checks.refuses("B01+c*12345[;", 10);
    }

    private static void depthFive(Checks checks) {
        checks.refuses("S0-----1", 6);
        checks.refuses("S0-----", 6);
        checks.refuses("S0(((((1", 6);
        checks.refuses("S0((((-1))))", 6);
        checks.refuses("S0----(1)", 6);
        checks.refuses("S0-(-(-1))", 6);
        checks.refuses("S0((((1+(1))))", 8);
        checks.refuses("S0((((1--1))))", 8);
        checks.refuses("S01+((((1*-", 10);
        checks.refuses("S0a[((((1))))<((((-", 18);
        checks.refuses("I0(1,1,1+----(", 13);
        checks.reads("S0((((1-1))))");
        checks.reads("S0----1-1");
        checks.reads("S0----1-----1");
        checks.reads("S0((((1))))-((((1))))");
        checks.refuses("S0((((", 6);
        checks.refuses("S0((((+", 6);
        checks.refuses("S0----*", 6);
    }

    // A beginning of a statement is one itself, or just its end is wrong.
    private static void beginnings(Checks checks) {
        Grammar grammar = new Grammar();
        for (String statement : STATEMENTS) {
            checks.reads(statement);
            for (int length = 0; length < statement.length(); length++) {
                String text = statement.substring(0, length);
                int due = grammar.placeOf(text);
                checks.isTrue("the place of " + text + " as -1 or its length", due == -1 || due == length);
                checks.same("the place of " + text, Checks.placeOf(text), due);
            }
        }
        String[] unfinished = {"I", "D", "U", "S", "P", "A", "B", "I0", "U0", "S0", "P0", "A0", "B0", "P01", "B01",
            "I0(", "I0(1", "I0(1,", "I0(1,2", "I0(1,2,", "I0(1,2,3", "D0[", "D0[1", "D0[1=", "D0[1=1", "D0[1=1&",
            "D0[1=1|", "U0b", "U0b=", "S0-", "S0(", "S0(1", "S01+", "S01*", "S0a,", "S0a,b,", "S0a^", "A0+", "B01<",
            "S0((((1)))"};
        for (String text : unfinished) {
            checks.refuses(text, text.length());
        }
    }

    private static void emptyAndFullTexts(Checks checks) {
        checks.refuses("", 0);
        String full = "A0+1+1+1+1+1+1+1+1+1+1+1+1+1+1+1+1+1+1+1+1+1+1+";
        checks.refuses(full, 47);
        checks.refuses(full + "-", 48);
        checks.refuses(full + "(", 48);
        checks.refuses(full + "+", 47);
        checks.reads(full + "1");
        checks.refuses("S01,1,1[1+1+1+1+1+1+1+1+1+1+1+1+1+1+1+1+1+1+1=11", 48);
    }
}
