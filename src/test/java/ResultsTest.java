/** Terms: STATEMENTS, the ORDER of THE RESULT, and the statements A and B. */
public final class ResultsTest {
    private static final String ORDER = "Terms, ORDER";
    private static final String FOLDS = "Terms, STATEMENTS A and B";

    public static void main(String[] args) {
        Checks checks = new Checks();
        checks.sentence(ORDER, "ORDER: ^ and a column", ResultsTest::orderIsByAColumn);
        checks.sentence(ORDER, "sorted by that column's values where they come from, rising", ResultsTest::rising);
        checks.sentence(ORDER, "those with the same stay as they came", ResultsTest::theSameStay);
        checks.sentence(FOLDS, "A T F E C?, B T T F E C?", ResultsTest::functions);
        checks.sentence(FOLDS, "F of the values of E for the rows (pairs) that meet C", ResultsTest::valuesOfE);
        checks.sentence(FOLDS, "+ their sum (0 of none)", ResultsTest::sum);
        checks.sentence(FOLDS, "# how many", ResultsTest::howMany);
        checks.sentence(FOLDS, "> the greatest", ResultsTest::greatest);
        checks.sentence(FOLDS, "< the least", ResultsTest::least);
        checks.sentence(FOLDS, "(of none: NoSuchElementException)", ResultsTest::greatestAndLeastOfNone);
        checks.sentence(FOLDS, "THE RESULT is one row with that one value", ResultsTest::oneRowOneValue);
        checks.finish();
    }

    private static void orderIsByAColumn(Checks checks) {
        checks.onlyThese("S0a^", "abc", "", "");
        checks.onlyThese("P01a^", "abcdef", "", "");
        checks.refuses("S0a^", 4);
        checks.refuses("S0a^a^b", 5);
        checks.refuses("S0a^a+b", 5);
        checks.refuses("S0a^-a", 4);
    }

    private static void rising(Checks checks) {
        QueryStore store = new QueryStore();
        int[] numbers = {0, Checks.GREATEST, -1, Checks.LEAST, 1};
        for (int n = 0; n < numbers.length; n++) {
            Checks.ask(store, "I0(" + n + ",?,-?)", numbers[n]);
        }
        checks.gives(store, "S0a^b", 0, 5, "3 2 0 4 1");
        checks.gives(store, "S0a", 0, 5, "0 1 2 3 4");
        checks.gives(store, "S0b^b", 0, 5, "-2147483648 -1 0 1 2147483647");
        checks.gives(store, "S0a^c", 0, 5, "3 1 4 0 2");
        checks.gives(store, "S0-a^a", 0, 5, "0 -1 -2 -3 -4");
        checks.gives(store, "S0a[a>2]^b", 0, 2, "3 4");
        checks.gives(store, "S0a[a=1]^b", 0, 1, "1");
        checks.gives(store, "S0a[a>9]^b", 0, 0, "");
        checks.gives(store, "S1a^b", 0, 0, "");
        Checks.fill(store, 1, 2);
        checks.gives(store, "P01a,d[a<3]^f", 0, 6, "0,1 1,1 2,1 0,0 1,0 2,0");
        checks.gives(store, "P01a,d[a<3]^b", 0, 6, "2,0 2,1 0,0 0,1 1,0 1,1");
    }

    private static void theSameStay(Checks checks) {
        QueryStore store = Checks.storeWith(0, "1,5,-1", "2,4,-1", "3,5,-2", "4,4,-2", "5,-9,0", "6,5,-3");
        checks.gives(store, "S0a^b", 0, 6, "5 2 4 1 3 6");
        checks.gives(store, "S0a^c", 0, 6, "6 3 4 1 2 5");
        checks.gives(store, "S0c,a[a>2]^b", 0, 4, "0,5 -2,4 -2,3 -3,6");
        checks.gives(store, "U0b=7", 0, 6, "");
        checks.gives(store, "S0a^b", 0, 6, "1 2 3 4 5 6");
        QueryStore pairs = Checks.filled(0, 20);
        Checks.fill(pairs, 1, 2);
        checks.same("40 rows", Checks.ask(pairs, "P01a,d^d"), 40);
        for (int i = 0; i < 40; i++) {
            checks.same("a of row " + i, pairs.value(i, 0), i % 20);
            checks.same("d of row " + i, pairs.value(i, 1), i / 20);
        }
    }

    private static void functions(Checks checks) {
        checks.onlyThese("A0", "+#><", "", "a");
        checks.onlyThese("B00", "+#><", "", "a");
        checks.refuses("A0", 2);
        checks.refuses("A0+", 3);
        checks.refuses("A0++a", 3);
        checks.refuses("A0+a,b", 4);
        checks.refuses("A0+a^a", 4);
        checks.refuses("B00#a[a=1]^a", 10);
        checks.refuses("B0+a", 2);
    }

    private static void valuesOfE(Checks checks) {
        QueryStore store = Checks.storeWith(0, "1,5,-7", "2,8,-3", "3,6,-5");
        Checks.ask(store, "I2(10,20,30)");
        Checks.ask(store, "I2(11,22,33)");
        checks.gives(store, "A0+a*b[a<3]", 0, 1, "21");
        checks.gives(store, "A0>b-a[a>?]", 2, 1, "3");
        checks.gives(store, "B02+a*d", 0, 1, "126");
        checks.gives(store, "B02>b+f[d=10]", 0, 1, "38");
        checks.gives(store, "B20<c-e", 0, 1, "22");
        String[] functions = {"+", "#", ">", "<"};
        for (String f : functions) {
            checks.fails(store, "A0" + f + "1/(a-2)", 0, Checks.ARITHMETIC);
            checks.fails(store, "B02" + f + "1/(a*d-33)", 0, Checks.ARITHMETIC);
            checks.gives(store, "A0" + f + "1/(a-2)[a=3]", 0, 1, "1");
        }
    }

    private static void sum(Checks checks) {
        QueryStore store = Checks.filled(0, 3);
        checks.gives(store, "A1+1/0", 0, 1, "0");
        checks.gives(store, "A0+1/0[a>2]", 0, 1, "0");
        checks.gives(store, "B01+1/0", 0, 1, "0");
        checks.gives(store, "B10+1/0", 0, 1, "0");
        checks.gives(store, "A0+a+10", 0, 1, "33");
        checks.gives(store, "A0+7[a=2]", 0, 1, "7");
        checks.gives(store, "A0+?", Checks.GREATEST, 1, "2147483645");
        checks.gives(store, "A0+?[a<2]", Checks.LEAST, 1, "0");
        checks.gives(store, "A0+?+a[a<2]", Checks.GREATEST, 1, "-1");
        checks.gives(store, "B00+?", Checks.LEAST, 1, "-2147483648");
    }

    private static void howMany(Checks checks) {
        QueryStore store = Checks.filled(0, 20);
        checks.gives(store, "A1#1/0", 0, 1, "0");
        checks.gives(store, "A0#1/0[a>19]", 0, 1, "0");
        checks.gives(store, "B01#1/0", 0, 1, "0");
        checks.gives(store, "B10#1/0", 0, 1, "0");
        checks.gives(store, "A0#0[a<1]", 0, 1, "1");
        checks.gives(store, "A0#0", 0, 1, "20");
        checks.gives(store, "B00#0", 0, 1, "400");
    }

    private static void greatest(Checks checks) {
        QueryStore store = Checks.storeWith(0, "1,5,-7", "2,8,-3", "3,6,-5");
        checks.gives(store, "A0>b", 0, 1, "8");
        checks.gives(store, "A0>c", 0, 1, "-3");
        checks.gives(store, "A0>c[a=1]", 0, 1, "-7");
        checks.gives(store, "A0>?", Checks.LEAST, 1, "-2147483648");
        checks.gives(store, "A0>?+a-1", Checks.LEAST, 1, "-2147483646");
        checks.gives(store, "A0>?+a-1", Checks.GREATEST, 1, "2147483647");
        checks.gives(store, "B00>a*10+d", 0, 1, "33");
    }

    private static void least(Checks checks) {
        QueryStore store = Checks.storeWith(0, "1,5,-5", "2,8,-3", "3,6,-7");
        checks.gives(store, "A0<b", 0, 1, "5");
        checks.gives(store, "A0<c", 0, 1, "-7");
        checks.gives(store, "A0<b[a=2]", 0, 1, "8");
        checks.gives(store, "A0<?", Checks.GREATEST, 1, "2147483647");
        checks.gives(store, "A0<?-a+1", Checks.GREATEST, 1, "2147483645");
        checks.gives(store, "A0<?-a+1", Checks.LEAST, 1, "-2147483648");
        checks.gives(store, "B00<a*10+d", 0, 1, "11");
    }

    private static void greatestAndLeastOfNone(Checks checks) {
        QueryStore store = Checks.filled(0, 3);
        String[] functions = {">", "<"};
        for (String f : functions) {
            checks.fails(store, "A1" + f + "a", 0, Checks.NOT_THERE);
            checks.fails(store, "A1" + f + "1/0", 0, Checks.NOT_THERE);
            checks.fails(store, "A0" + f + "a[a>2]", 0, Checks.NOT_THERE);
            checks.fails(store, "B01" + f + "a", 0, Checks.NOT_THERE);
            checks.fails(store, "B10" + f + "a", 0, Checks.NOT_THERE);
            checks.fails(store, "B00" + f + "a[d<?]", 0, Checks.NOT_THERE);
            checks.gives(store, "A0" + f + "a[a=2]", 0, 1, "2");
        }
    }

    private static void oneRowOneValue(Checks checks) {
        QueryStore store = Checks.filled(0, 20);
        String[] texts = {"A0+a", "A1+a", "A0#a", "A1#a", "A0>a", "A0<a", "B00+a", "B01#a", "B00>a"};
        for (String text : texts) {
            Checks.ask(store, "S0a,b,c");
            checks.same(text, Checks.ask(store, text), 1);
            checks.same("rows behind " + text, store.count(6), 1);
            checks.same("values behind " + text, store.count(7), 1);
            store.value(0, 0);
            checks.throwsThat("value(1, 0)", Checks.NOT_THERE, () -> store.value(1, 0));
            checks.throwsThat("value(0, 1)", Checks.NOT_THERE, () -> store.value(0, 1));
        }
    }
}
