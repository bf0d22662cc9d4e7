/** Terms: columns, C, AND and COMP. */
public final class ConditionsTest {
    private static final String COLUMNS = "Terms, Columns";
    private static final String CONDITIONS = "Terms, C";

    public static void main(String[] args) {
        Checks checks = new Checks();
        checks.sentence(COLUMNS, "Columns are a, b, c of the (first) table", ConditionsTest::columnsOfTheFirst);
        checks.sentence(COLUMNS, "and in P and B d, e, f those of the second", ConditionsTest::columnsOfTheSecond);
        checks.sentence(CONDITIONS, "C: [ AND (| AND)* ], which is met if one of the ANDs is", ConditionsTest::ors);
        checks.sentence(CONDITIONS, "AND: COMP (& COMP)*", ConditionsTest::ands);
        checks.sentence(CONDITIONS, "COMP: E (< or = or >) E", ConditionsTest::comparisons);
        checks.sentence(CONDITIONS, "COMP: E (< or = or >) E", ConditionsTest::comparisonsOfLeastAndGreatest);
        checks.sentence(CONDITIONS, "what is behind an AND that is met", ConditionsTest::behindAnAndThatIsMet);
        checks.sentence(CONDITIONS, "or in an AND behind a COMP that isn't, is not worked out",
                ConditionsTest::behindAComparisonThatIsNot);
        checks.sentence(CONDITIONS, "From left to right", ConditionsTest::leftToRight);
        checks.sentence(CONDITIONS, "Without C all meet it", ConditionsTest::withoutCondition);
        checks.finish();
    }

    private static void columnsOfTheFirst(Checks checks) {
        String units = "0123456789?abc";
        checks.onlyThese("S0", units, "-(", "");
        checks.onlyThese("S0a,", units, "-(", "");
        checks.onlyThese("S01,2,", units, "-(", "[1=1]");
        checks.onlyThese("D1[", units, "-(", "=1]");
        checks.onlyThese("D1[1=", units, "-(", "]");
        checks.onlyThese("U2b=", units, "-(", "");
        checks.onlyThese("U2b=1[", units, "-(", "=1]");
        checks.onlyThese("A0+", units, "-(", "");
        checks.onlyThese("A0+1[1=", units, "-(", "]");
        QueryStore store = Checks.storeWith(1, "1,20,300");
        checks.gives(store, "S1a,b,c", 0, 1, "1,20,300");
        checks.gives(store, "S1c,a,b[a=1&b=20&c=300]", 0, 1, "300,1,20");
    }

    private static void columnsOfTheSecond(Checks checks) {
        String units = "0123456789?abcdef";
        checks.onlyThese("P01", units, "-(", "");
        checks.onlyThese("P011,2,", units, "-(", "[1=1]");
        checks.onlyThese("P01a[", units, "-(", "=1]");
        checks.onlyThese("B10>", units, "-(", "");
        checks.onlyThese("B10>1[1=", units, "-(", "]");
        QueryStore store = Checks.storeWith(0, "1,20,300");
        Checks.ask(store, "I1(4,50,600)");
        checks.gives(store, "P01a,b,c", 0, 1, "1,20,300");
        checks.gives(store, "P01d,e,f", 0, 1, "4,50,600");
        checks.gives(store, "P10d,e,f[a=4&b=50&c=600]", 0, 1, "1,20,300");
        checks.gives(store, "B01+a+b+c+d+e+f", 0, 1, "975");
    }

    private static void ors(Checks checks) {
        checks.refuses("D0[", 3);
        checks.refuses("D0[]", 3);
        checks.refuses("D0[|1<2]", 3);
        checks.refuses("D0[1<2|]", 7);
        checks.refuses("D0[1<2||1<2]", 7);
        checks.refuses("D0[1<2", 6);
        checks.refuses("D0[1<2]]", 7);
        checks.refuses("D0[1<2][1<2]", 7);
        checks.refuses("D01<2]", 2);
        QueryStore store = Checks.filled(0, 4);
        checks.gives(store, "S0a[a=0]", 0, 1, "0");
        checks.gives(store, "S0a[a=0|a=2]", 0, 2, "0 2");
        checks.gives(store, "S0a[a=9|a=2|a=3]", 0, 2, "2 3");
        checks.gives(store, "S0a[a=9|a=8|a=3]", 0, 1, "3");
        checks.gives(store, "S0a[a=9|a=8|a=7]", 0, 0, "");
        checks.gives(store, "S0a[a=0|a=0|a<9]", 0, 4, "0 1 2 3");
    }

    private static void ands(Checks checks) {
        checks.refuses("D0[&1<2]", 3);
        checks.refuses("D0[1<2&]", 7);
        checks.refuses("D0[1<2&&1<2]", 7);
        checks.refuses("D0[1<2&|1<2]", 7);
        QueryStore store = Checks.filled(0, 4);
        checks.gives(store, "S0a[a>0&b<6]", 0, 2, "1 2");
        checks.gives(store, "S0a[a>0&b<6&c<0-1]", 0, 1, "2");
        checks.gives(store, "S0a[a>0&b<6&c<0-2]", 0, 0, "");
        checks.gives(store, "S0a[a>2&b<6|a=0]", 0, 1, "0");
        checks.gives(store, "S0a[a=0|a>0&b<6&c<0-1]", 0, 2, "0 2");
        checks.gives(store, "S0a[a=0&b=1|a=2&b=5|a=3]", 0, 1, "3");
    }

    private static void comparisons(Checks checks) {
        checks.onlyThese("D0[1", "<=>", "0123456789+-*/%", "2]");
        checks.refuses("D0[1]", 4);
        checks.refuses("D0[<1]", 3);
        checks.refuses("D0[1<]", 5);
        checks.refuses("D0[1<=2]", 5);
        checks.refuses("D0[1=2=3]", 6);
        checks.refuses("D0[(1<2)]", 5);
        QueryStore store = Checks.filled(0, 3);
        checks.gives(store, "S0a[a<1]", 0, 1, "0");
        checks.gives(store, "S0a[a=1]", 0, 1, "1");
        checks.gives(store, "S0a[a>1]", 0, 1, "2");
        checks.gives(store, "S0a[1<a]", 0, 1, "2");
        checks.gives(store, "S0a[1>a]", 0, 1, "0");
        checks.gives(store, "S0a[a*2=b&b-a=0-c]", 0, 3, "0 1 2");
    }

    private static void comparisonsOfLeastAndGreatest(Checks checks) {
        QueryStore store = new QueryStore();
        int[] keys = {Checks.LEAST, 0, Checks.GREATEST};
        for (int key : keys) {
            Checks.ask(store, "I0(?,0,0)", key);
        }
        int[] less = {0, 1, 2};
        for (int n = 0; n < 3; n++) {
            checks.same("below " + keys[n], Checks.ask(store, "S0a[a<?]", keys[n]), less[n]);
            checks.same("at " + keys[n], Checks.ask(store, "S0a[a=?]", keys[n]), 1);
            checks.same("above " + keys[n], Checks.ask(store, "S0a[a>?]", keys[n]), 2 - less[n]);
        }
        checks.gives(store, "S0a[a-1>a]", 0, 1, "-2147483648");
        checks.gives(store, "S0a[a+1<a]", 0, 1, "2147483647");
        checks.gives(store, "S0a[-a=a]", 0, 2, "-2147483648 0");
    }

    private static void behindAnAndThatIsMet(Checks checks) {
        QueryStore store = Checks.filled(0, 3);
        checks.gives(store, "S0a[a<9|1/0=0]", 0, 3, "0 1 2");
        checks.gives(store, "S0a[a=0|1/a<9]", 0, 3, "0 1 2");
        checks.gives(store, "S0a[a>9|a<9&b<9|1%0=0]", 0, 3, "0 1 2");
        checks.gives(store, "D0[a=0|1/a>0]", 0, 2, "");
        checks.gives(store, "U0b=a[a=2|1/(a-2)>0]", 0, 1, "");
        checks.gives(store, "A0#a[a=2|1/(a-2)>0]", 0, 1, "1");
        checks.gives(store, "P00a[a=d|1/(a-d)>0]", 0, 1, "2");
        checks.fails(store, "S0a[a>9|1/0=0]", 0, Checks.ARITHMETIC);
    }

    private static void behindAComparisonThatIsNot(Checks checks) {
        QueryStore store = Checks.filled(0, 3);
        checks.gives(store, "S0a[a>9&1/0=0]", 0, 0, "");
        checks.gives(store, "S0a[a>0&1/a=1]", 0, 1, "1");
        checks.gives(store, "S0a[a>9&a>9&1/0=0|a=1]", 0, 1, "1");
        checks.gives(store, "S0a[a>9&1/0=0|a>9&1/0=0|a<9]", 0, 3, "0 1 2");
        checks.gives(store, "S0a[a<9&a>9&1/0=0]", 0, 0, "");
        checks.gives(store, "D0[a>0&1/a=1]", 0, 1, "");
        checks.gives(store, "U0b=a[a>0&2/a=1]", 0, 1, "");
        checks.gives(store, "B00#a[a>d&1/(a-d)<9]", 0, 1, "1");
        checks.fails(store, "S0a[a<9&1/0=0|a<9]", 0, Checks.ARITHMETIC);
    }

    private static void leftToRight(Checks checks) {
        QueryStore store = Checks.filled(0, 3);
        checks.fails(store, "S0a[1/0=0|a<9]", 0, Checks.ARITHMETIC);
        checks.fails(store, "S0a[1/0=0&a>9]", 0, Checks.ARITHMETIC);
        checks.fails(store, "S0a[a=9&1/0=0|1/0=0|a<9]", 0, Checks.ARITHMETIC);
        checks.fails(store, "S0a[1=1/0]", 0, Checks.ARITHMETIC);
        checks.fails(store, "D0[1/(a-2)=0]", 0, Checks.ARITHMETIC);
        checks.same("rows", store.count(3), 3);
    }

    private static void withoutCondition(Checks checks) {
        QueryStore store = Checks.filled(0, 20);
        checks.same("S", Checks.ask(store, "S0a"), 20);
        checks.gives(store, "A0#a", 0, 1, "20");
        checks.gives(store, "B00#a", 0, 1, "400");
        checks.gives(store, "U0b=1", 0, 20, "");
        checks.gives(store, "A0+b", 0, 1, "20");
        Checks.fill(store, 1, 2);
        checks.same("P", Checks.ask(store, "P01a"), 40);
        checks.gives(store, "D0", 0, 20, "");
    }
}
