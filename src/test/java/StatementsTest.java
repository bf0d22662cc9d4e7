/** Terms: STATEMENTS, each form with what it does. */
public final class StatementsTest {
    private static final String WHERE = "Terms, STATEMENTS";

    public static void main(String[] args) {
        Checks checks = new Checks();
        checks.sentence(WHERE, "T a digit 0 .. 2", StatementsTest::tables);
        checks.sentence(WHERE, "I T ( E , E , E ): a new row with these values", StatementsTest::insert);
        checks.sentence(WHERE, "(no columns in E)", StatementsTest::noColumnsInInsert);
        checks.sentence(WHERE, "D T C?: the rows that meet C go", StatementsTest::delete);
        checks.sentence(WHERE, "U T X = E C?: the column X, b or c, of the rows that meet C becomes E",
                StatementsTest::update);
        checks.sentence(WHERE, "S T LIST C? ORDER?", StatementsTest::select);
        checks.sentence(WHERE, "for P each pair of one of the first table with one of the second",
                StatementsTest::pairs);
        checks.sentence(WHERE, "the first's rows one after another, for each the second's",
                StatementsTest::pairsOneAfterAnother);
        checks.sentence(WHERE, "LIST: E, or E , E, or E , E , E", StatementsTest::lists);
        checks.finish();
    }

    private static void tables(Checks checks) {
        String[] kinds = {"I", "(1,2,3)", "D", "", "U", "b=1", "S", "a", "P", "0a", "A", "+a", "B", "0+a"};
        for (int i = 0; i < kinds.length; i += 2) {
            checks.onlyThese(kinds[i], "012", "", kinds[i + 1]);
        }
        checks.onlyThese("P2", "012", "", "a");
        checks.onlyThese("B2", "012", "", "+a");
        QueryStore store = Checks.filled(0, 1);
        Checks.fill(store, 1, 2);
        Checks.fill(store, 2, 3);
        for (int first = 0; first < 3; first++) {
            checks.gives(store, "A" + first + "#1", 0, 1, String.valueOf(first + 1));
            for (int second = 0; second < 3; second++) {
                String due = String.valueOf(first * 10 + second);
                checks.gives(store, "B" + first + second + ">a*10+d", 0, 1, due);
            }
        }
    }

    private static void insert(Checks checks) {
        QueryStore store = new QueryStore();
        checks.gives(store, "I0(1+1,?/2,-(3))", -9, 1, "");
        checks.sameText("rows", Checks.rows(store, 0), "2,-4,-3");
        checks.refuses("I0()", 3);
        checks.refuses("I0(1)", 4);
        checks.refuses("I0(1,2)", 6);
        checks.refuses("I0(1,2,3,4)", 8);
        checks.refuses("I0(,2,3)", 3);
        checks.refuses("I0(1,,3)", 5);
        checks.refuses("I0(1,2,)", 7);
        checks.refuses("I0(1,2,3", 8);
        checks.refuses("I01,2,3", 2);
        checks.refuses("I0(1,2,3)[1=1]", 9);
        checks.refuses("I0(1,2,3)^a", 9);
    }

    private static void noColumnsInInsert(Checks checks) {
        for (char c = 'a'; c <= 'f'; c++) {
            checks.refuses("I0(" + c + ",1,1)", 3);
            checks.refuses("I0(1," + c + ",1)", 5);
            checks.refuses("I0(1,1," + c + ")", 7);
            checks.refuses("I1(1+(2*-" + c + "),1,1)", 9);
            checks.refuses("I2(1,1,(((" + c + ")))", 10);
        }
        checks.reads("I0(1,?,1)");
    }

    private static void delete(Checks checks) {
        QueryStore store = Checks.filled(1, 6);
        checks.gives(store, "D1[a=6]", 0, 0, "");
        checks.gives(store, "D1[a=0|a=5]", 0, 2, "");
        checks.sameText("rows", Checks.rows(store, 1), "1,2,-1 2,4,-2 3,6,-3 4,8,-4");
        checks.gives(store, "D1[a=?&b=4]", 2, 1, "");
        checks.sameText("rows", Checks.rows(store, 1), "1,2,-1 3,6,-3 4,8,-4");
        checks.gives(store, "D1", 0, 3, "");
        checks.sameText("rows", Checks.rows(store, 1), "");
        checks.gives(store, "D1", 0, 0, "");
        checks.gives(store, "D1[1/0=0]", 0, 0, "");
        checks.gives(store, "I1(8,8,8)", 0, 1, "");
        checks.sameText("rows", Checks.rows(store, 1), "8,8,8");
        checks.refuses("D0^a", 2);
    }

    private static void update(Checks checks) {
        checks.onlyThese("U0", "bc", "", "=1");
        checks.refuses("U0b", 3);
        checks.refuses("U0b=", 4);
        checks.refuses("U0b=1,2", 5);
        checks.refuses("U0b=1^a", 5);
        QueryStore store = Checks.storeWith(0, "1,4,9", "2,3,9", "3,0,9");
        checks.gives(store, "U0c=12/b[b>0]", 0, 2, "");
        checks.sameText("rows", Checks.rows(store, 0), "1,4,3 2,3,4 3,0,9");
        checks.gives(store, "U0b=a*10+b+c+?", 100, 3, "");
        checks.sameText("rows", Checks.rows(store, 0), "1,117,3 2,127,4 3,139,9");
        checks.gives(store, "U0b=0[a>3]", 0, 0, "");
        checks.gives(store, "U0b=?[b<127]", Checks.LEAST, 1, "");
        checks.gives(store, "U0b=b-1[a=1]", 0, 1, "");
        checks.sameText("rows", Checks.rows(store, 0), "1,2147483647,3 2,127,4 3,139,9");
        checks.gives(store, "U1b=1/0", 0, 0, "");
        checks.sameText("rows of another table", Checks.rows(store, 1), "");
    }

    private static void select(Checks checks) {
        QueryStore store = Checks.storeWith(2, "3,1,10", "1,2,20", "2,3,30");
        checks.gives(store, "S2a", 0, 3, "1 2 3");
        checks.gives(store, "S2a,c-b", 0, 3, "1,18 2,27 3,9");
        checks.gives(store, "S2c,b,a*?[a>1]", 2, 2, "30,3,4 10,1,6");
        checks.gives(store, "S2?,7", -1, 3, "-1,7 -1,7 -1,7");
        checks.gives(store, "S2a[a>3]", 0, 0, "");
        checks.gives(store, "S2a,1/(a-3)[a<3]", 0, 2, "1,0 2,-1");
        checks.gives(store, "S11/0", 0, 0, "");
        checks.sameText("rows", Checks.rows(store, 2), "1,2,20 2,3,30 3,1,10");
        checks.same("a full table", Checks.ask(Checks.filled(0, 20), "S0a"), 20);
        checks.refuses("S0a^a[1=1]", 5);
    }

    private static void pairs(Checks checks) {
        QueryStore store = Checks.filled(0, 3);
        checks.gives(store, "P01a/0", 0, 0, "");
        checks.gives(store, "P10a/0", 0, 0, "");
        checks.gives(store, "P12a/0", 0, 0, "");
        checks.gives(store, "P01a[1/0=0]", 0, 0, "");
        checks.gives(store, "P00a*10+d[a<d]", 0, 3, "1 2 12");
        checks.gives(store, "P00a,d[a=d]", 0, 3, "0,0 1,1 2,2");
        Checks.ask(store, "I1(9,5,7)");
        checks.gives(store, "P01a,d", 0, 3, "0,9 1,9 2,9");
        checks.gives(store, "P10a,d", 0, 3, "9,0 9,1 9,2");
        checks.gives(store, "P11a*d,b*e,c*f", 0, 1, "81,25,49");
    }

    private static void pairsOneAfterAnother(Checks checks) {
        QueryStore store = Checks.storeWith(0, "3,30,0", "1,10,2", "2,20,1");
        Checks.ask(store, "I1(5,1,7)");
        Checks.ask(store, "I1(4,2,8)");
        checks.gives(store, "P01a,d", 0, 6, "1,4 1,5 2,4 2,5 3,4 3,5");
        checks.gives(store, "P10a,d", 0, 6, "4,1 4,2 4,3 5,1 5,2 5,3");
        checks.gives(store, "P01b,e,f[a=e]", 0, 2, "10,1,7 20,2,8");
        checks.gives(store, "P00a,d", 0, 9, "1,1 1,2 1,3 2,1 2,2 2,3 3,1 3,2 3,3");
    }

    private static void lists(Checks checks) {
        checks.refuses("S0", 2);
        checks.refuses("S0,a", 2);
        checks.refuses("S0[1=1]", 2);
        checks.reads("S0a");
        checks.refuses("S0a,", 4);
        checks.refuses("S0a,,b", 4);
        checks.reads("S0a,b");
        checks.reads("S0a,b,c");
        checks.refuses("S0a,b,c,", 7);
        checks.refuses("S0a,b,c,a", 7);
        checks.refuses("P01", 3);
        checks.reads("P01a,b,f");
        checks.refuses("P01a,b,f,d", 8);
        checks.refuses("A0+a,b", 4);
    }
}
