/** Promise 4: run, with every kind of statement; they are asked where nothing needs to be kept. */
public final class RunTest {
    public static void main(String[] args) {
        Checks checks = new Checks();
        numbers(checks);
        parameter(checks);
        insert(checks);
        fullTable(checks);
        delete(checks);
        update(checks);
        select(checks);
        order(checks);
        pairs(checks);
        tooManyRows(checks);
        aggregate(checks);
        aggregateOfPairs(checks);
        conditions(checks);
        expressions(checks);
        checks.finish();
    }

    private static void numbers(Checks checks) {
        QueryStore store = Checks.storeWith(0, "1,2,3");
        Checks.keep(store, 0, "S0a");
        store.run(0, 0);
        int[] bad = {-1, 4, Integer.MIN_VALUE, Integer.MAX_VALUE};
        for (int k : bad) {
            checks.throwsThat("run(" + k + ")", Checks.BAD, () -> store.run(k, 0));
        }
        for (int k = 1; k < 4; k++) {
            int number = k;
            checks.throwsThat("run(" + k + ")", Checks.NOT_THERE, () -> store.run(number, 0));
        }
        checks.sameText("the result", Checks.result(store), "1");
    }

    private static void parameter(Checks checks) {
        QueryStore store = new QueryStore();
        checks.same("keep", Checks.keep(store, 1, "I1(?,?+?,-?)"), 4);
        checks.same("run", store.run(1, 7), 1);
        checks.same("run", store.run(1, -3), 1);
        checks.same("run", store.run(1, Integer.MIN_VALUE), 1);
        checks.throwsThat("run", Checks.STATE, () -> store.run(1, 7));
        checks.sameText("rows", Checks.rows(store, 1), "-2147483648,0,-2147483648 -3,-6,3 7,14,-7");
        Checks.type(store, "S0");
        store.run(1, 8);
        checks.same("a run leaves the text", store.count(1), 2);
    }

    private static void insert(Checks checks) {
        QueryStore store = Checks.storeWith(0, "5,1,1", "3,2,2", "9,3,3", "-4,4,4", "7,5,5", "6,6,6");
        String rows = "-4,4,4 3,2,2 5,1,1 6,6,6 7,5,5 9,3,3";
        checks.sameText("rows", Checks.rows(store, 0), rows);
        Checks.ask(store, "S0a");
        checks.fails(store, "I0(3,0,0)", 0, Checks.STATE);
        checks.fails(store, "I0(?,0,1/0)", 2, Checks.ARITHMETIC);
        checks.fails(store, "I0(3,0,1%0)", 2, Checks.ARITHMETIC);
        checks.sameText("rows", Checks.rows(store, 0), rows);
        Checks.ask(store, "S0a");
        checks.gives(store, "I1(3,0,0)", 0, 1, "");
        checks.sameText("rows of another table", Checks.rows(store, 1), "3,0,0");
        checks.sameText("rows", Checks.rows(store, 0), rows);
    }

    private static void fullTable(Checks checks) {
        QueryStore store = new QueryStore();
        Checks.keep(store, 0, "I2(?*7%20,?,0)");
        StringBuilder due = new StringBuilder();
        for (int i = 0; i < 20; i++) {
            checks.same("run", store.run(0, i), 1);
            due.append(i == 0 ? "" : " ").append(i).append(',').append(i * 3 % 20).append(",0");
        }
        checks.fails(store, "I2(5,0,0)", 0, Checks.STATE);
        checks.fails(store, "I2(20,0,0)", 0, Checks.STATE);
        checks.fails(store, "I2(20,0,0/0)", 0, Checks.ARITHMETIC);
        checks.sameText("rows", Checks.rows(store, 2), due.toString());
        checks.gives(store, "D2[a=13]", 0, 1, "");
        for (int key = 0; key < 20; key++) {
            if (key != 13) {
                checks.fails(store, "I2(?,0,0)", key, Checks.STATE);
            }
        }
        checks.gives(store, "I2(13,?,0)", 19, 1, "");
        checks.sameText("rows", Checks.rows(store, 2), due.toString());
        checks.fails(store, "I2(-1,0,0)", 0, Checks.STATE);
        checks.gives(store, "I1(-1,0,0)", 0, 1, "");
    }

    private static void delete(Checks checks) {
        QueryStore store = Checks.storeWith(1, "1,4,0", "2,3,0", "3,2,0", "4,1,0", "5,0,0", "6,-1,0");
        Checks.ask(store, "S1a");
        checks.gives(store, "D1[a=9]", 0, 0, "");
        checks.fails(store, "D1[4/b>0]", 0, Checks.ARITHMETIC);
        checks.sameText("rows", Checks.rows(store, 1), "1,4,0 2,3,0 3,2,0 4,1,0 5,0,0 6,-1,0");
        checks.gives(store, "D1[a%2=0|b=?]", 4, 4, "");
        checks.sameText("rows", Checks.rows(store, 1), "3,2,0 5,0,0");
        checks.gives(store, "D0", 0, 0, "");
        checks.gives(store, "D1", 0, 2, "");
        checks.gives(store, "D1", 0, 0, "");
        checks.gives(store, "I1(8,8,8)", 0, 1, "");
        checks.sameText("rows", Checks.rows(store, 1), "8,8,8");
    }

    private static void update(Checks checks) {
        QueryStore store = Checks.storeWith(0, "1,4,9", "2,3,9", "3,0,9");
        Checks.ask(store, "S0a");
        checks.fails(store, "U0c=12/b", 0, Checks.ARITHMETIC);
        checks.sameText("rows", Checks.rows(store, 0), "1,4,9 2,3,9 3,0,9");
        checks.gives(store, "U0c=12/b[b>0]", 0, 2, "");
        checks.sameText("rows", Checks.rows(store, 0), "1,4,3 2,3,4 3,0,9");
        checks.gives(store, "U0b=b", 0, 3, "");
        checks.gives(store, "U0b=a*10+c+?", 100, 3, "");
        checks.sameText("rows", Checks.rows(store, 0), "1,113,3 2,124,4 3,139,9");
        checks.gives(store, "U0b=0[a>3]", 0, 0, "");
        checks.gives(store, "U1b=0", 0, 0, "");
        checks.gives(store, "U0c=a[a=2]", 0, 1, "");
        checks.sameText("rows", Checks.rows(store, 0), "1,113,3 2,124,2 3,139,9");
    }

    private static void select(Checks checks) {
        QueryStore store = Checks.storeWith(2, "3,1,10", "1,2,20", "2,3,30");
        checks.gives(store, "S2a", 0, 3, "1 2 3");
        checks.gives(store, "S2a,c-b", 0, 3, "1,18 2,27 3,9");
        checks.gives(store, "S2c,b,a*?[a>1]", 2, 2, "30,3,4 10,1,6");
        checks.gives(store, "S2a[a>3]", 0, 0, "");
        checks.gives(store, "S1a", 0, 0, "");
        checks.gives(store, "S2?,7", -1, 3, "-1,7 -1,7 -1,7");
        checks.fails(store, "S2a,1/(a-3)", 0, Checks.ARITHMETIC);
        checks.gives(store, "S2a,1/(a-3)[a<3]", 0, 2, "1,0 2,-1");
        checks.fails(store, "S2a[1/(a-3)=0]", 0, Checks.ARITHMETIC);
        checks.gives(store, "S11/0", 0, 0, "");
        checks.sameText("rows", Checks.rows(store, 2), "1,2,20 2,3,30 3,1,10");
    }

    private static void order(Checks checks) {
        QueryStore store = Checks.storeWith(0, "1,5,-1", "2,4,-1", "3,5,-2", "4,4,-2", "5,-9,0", "6,5,-3");
        checks.gives(store, "S0a^b", 0, 6, "5 2 4 1 3 6");
        checks.gives(store, "S0a", 0, 6, "1 2 3 4 5 6");
        checks.gives(store, "S0a^c", 0, 6, "6 3 4 1 2 5");
        checks.gives(store, "S0-a^a", 0, 6, "-1 -2 -3 -4 -5 -6");
        checks.gives(store, "S0c,a[a>2]^b", 0, 4, "0,5 -2,4 -2,3 -3,6");
        checks.gives(store, "S07^b", 0, 6, "7 7 7 7 7 7");
        checks.gives(store, "S0a[a>9]^b", 0, 0, "");
        store = Checks.storeWith(1, "1,9999*9999*21,0", "2,0,0", "3,-(9999*9999*21),0", "4,0,0");
        checks.gives(store, "S1a^b", 0, 4, "3 2 4 1");
    }

    private static void pairs(Checks checks) {
        QueryStore store = Checks.storeWith(0, "1,10,2", "2,20,1", "3,30,0");
        Checks.ask(store, "I1(5,1,7)");
        Checks.ask(store, "I1(4,2,8)");
        checks.gives(store, "P01a,d", 0, 6, "1,4 1,5 2,4 2,5 3,4 3,5");
        checks.gives(store, "P10a,d", 0, 6, "4,1 4,2 4,3 5,1 5,2 5,3");
        checks.gives(store, "P01b,e,f[a=e]", 0, 2, "10,1,7 20,2,8");
        checks.gives(store, "P01a,f^c", 0, 6, "3,8 3,7 2,8 2,7 1,8 1,7");
        checks.gives(store, "P01a,f^f", 0, 6, "1,7 2,7 3,7 1,8 2,8 3,8");
        checks.gives(store, "P01a,f^d", 0, 6, "1,8 2,8 3,8 1,7 2,7 3,7");
        checks.gives(store, "P01a,f[a+e<4]^e", 0, 3, "1,7 2,7 1,8");
        checks.gives(store, "P00a*10+d[a<d]", 0, 3, "12 13 23");
        checks.gives(store, "P02a/0", 0, 0, "");
        checks.gives(store, "P20a/0", 0, 0, "");
        checks.gives(store, "P22a", 0, 0, "");
        checks.fails(store, "P01a[1/(d-5)>0]", 0, Checks.ARITHMETIC);
    }

    private static void tooManyRows(Checks checks) {
        QueryStore store = new QueryStore();
        Checks.keep(store, 0, "I0(?,?,?)");
        Checks.keep(store, 1, "I1(?,?,?)");
        for (int i = 0; i < 20; i++) {
            store.run(0, i);
        }
        store.run(1, 0);
        store.run(1, 1);
        checks.same("40 rows", Checks.ask(store, "P01a,d"), 40);
        checks.same("the last of them", store.value(39, 0) * 10 + store.value(39, 1), 191);
        store.run(1, 2);
        checks.fails(store, "P01a,d", 0, Checks.TOO_MANY);
        checks.same("40 of 60 meet it", Checks.ask(store, "P01a[d>0]"), 40);
        checks.same("40 of 60 meet it", Checks.ask(store, "P01a[d<2]^d"), 40);
        checks.same("the last of them", store.value(39, 0), 19);
        checks.fails(store, "P01a[a>18|d<2]", 0, Checks.TOO_MANY);
        // The pairs' numbers: the 41st is (13, 1), behind it comes (13, 2).
        checks.fails(store, "P01a,1/(a*3+d-40)", 0, Checks.ARITHMETIC);
        checks.fails(store, "P01a,1/(a*3+d-39)", 0, Checks.ARITHMETIC);
        checks.fails(store, "P01a,1/(a*3+d-41)", 0, Checks.TOO_MANY);
        checks.fails(store, "P01a[1/(a*3+d-40)<2]", 0, Checks.ARITHMETIC);
        checks.fails(store, "P01a[1/(a*3+d-41)<2]", 0, Checks.TOO_MANY);
        checks.fails(store, "P01a,1/(a*3+d-41)[a+d>0]", 0, Checks.ARITHMETIC);
        checks.gives(store, "B01#a", 0, 1, "60");
    }

    private static void aggregate(Checks checks) {
        QueryStore store = Checks.storeWith(0, "1,5,-7", "2,8,-3", "3,6,-5");
        checks.gives(store, "A0+b", 0, 1, "19");
        checks.gives(store, "A0#b", 0, 1, "3");
        checks.gives(store, "A0>c", 0, 1, "-3");
        checks.gives(store, "A0<c", 0, 1, "-7");
        checks.gives(store, "A0>b[a>?]", 2, 1, "6");
        checks.gives(store, "A0<b[a>?]", 1, 1, "6");
        checks.gives(store, "A0+a*b[a<3]", 0, 1, "21");
        checks.gives(store, "A0#0[a<3]", 0, 1, "2");
        checks.gives(store, "A0+a[a>3]", 0, 1, "0");
        checks.gives(store, "A0#a[a>3]", 0, 1, "0");
        checks.fails(store, "A0>a[a>3]", 0, Checks.NOT_THERE);
        checks.fails(store, "A0<a[a>3]", 0, Checks.NOT_THERE);
        checks.fails(store, "A1<a", 0, Checks.NOT_THERE);
        checks.gives(store, "A1+1/0", 0, 1, "0");
        checks.gives(store, "A1#1/0", 0, 1, "0");
        checks.fails(store, "A1>1/0", 0, Checks.NOT_THERE);
        checks.fails(store, "A0+1/(a-2)", 0, Checks.ARITHMETIC);
        checks.fails(store, "A0#1/(a-2)", 0, Checks.ARITHMETIC);
        checks.fails(store, "A0>1/(a-2)", 0, Checks.ARITHMETIC);
        checks.gives(store, "A0#1/(a-2)[a>2]", 0, 1, "1");
        checks.gives(store, "A0+?", Integer.MAX_VALUE, 1, String.valueOf(Integer.MAX_VALUE * 3));
        checks.gives(store, "A0>?", Integer.MIN_VALUE, 1, "-2147483648");
        checks.gives(store, "A0<?", Integer.MAX_VALUE, 1, "2147483647");
    }

    private static void aggregateOfPairs(Checks checks) {
        QueryStore store = Checks.storeWith(0, "1,5,7", "2,8,3", "3,6,5");
        Checks.ask(store, "I2(10,20,30)");
        Checks.ask(store, "I2(11,22,33)");
        checks.gives(store, "B02+a*d", 0, 1, "126");
        checks.gives(store, "B02#1", 0, 1, "6");
        checks.gives(store, "B02>b+f", 0, 1, "41");
        checks.gives(store, "B20<c-e", 0, 1, "22");
        checks.gives(store, "B00+a*10+d[a>d]", 0, 1, "84");
        checks.gives(store, "B01+1/0", 0, 1, "0");
        checks.gives(store, "B10#1/0", 0, 1, "0");
        checks.fails(store, "B01>a", 0, Checks.NOT_THERE);
        checks.fails(store, "B02<a[d<?]", 10, Checks.NOT_THERE);
    }

    private static void conditions(Checks checks) {
        QueryStore store = Checks.storeWith(0, "-1,0,1", "0,0,2", "1,0,3", "2,1,4", "3,1,5");
        checks.gives(store, "S0a[a<1]", 0, 2, "-1 0");
        checks.gives(store, "S0a[a=1]", 0, 1, "1");
        checks.gives(store, "S0a[a>1]", 0, 2, "2 3");
        checks.gives(store, "S0a[a>0&b=0]", 0, 1, "1");
        checks.gives(store, "S0a[a>0|b=0]", 0, 5, "-1 0 1 2 3");
        checks.gives(store, "S0a[a<0|a>0&b=1&c<5|a=0]", 0, 3, "-1 0 2");
        checks.gives(store, "S0a[a=0&c=2|a=2&c=5|a=3]", 0, 2, "0 3");
        checks.gives(store, "S0a[b>0&1/b=1]", 0, 2, "2 3");
        checks.gives(store, "S0a[b=0|1/b=1]", 0, 5, "-1 0 1 2 3");
        checks.gives(store, "S0a[a>9&1/0=0|a<9|1/0=0]", 0, 5, "-1 0 1 2 3");
        checks.fails(store, "S0a[a<9&1/0=0|a<9]", 0, Checks.ARITHMETIC);
        checks.fails(store, "S0a[a>9|1/0=0]", 0, Checks.ARITHMETIC);
        checks.gives(store, "D0[a>9&1/0=0]", 0, 0, "");
        checks.gives(store, "U0b=1/a[a>0&1/a=1|a<0]", 0, 2, "");
    }

    private static void expressions(Checks checks) {
        String[] due = {
            "2+3*4", "14", "(2+3)*4", "20", "20-5-3", "12", "100/5/2", "10", "100/(5/2)", "50", "7-2+1", "6",
            "17%5*2", "4", "2*17%5", "4", "-7/2", "-3", "7/-2", "-3", "-7%3", "-1", "7%-3", "1", "-2*-3", "6",
            "--4", "4", "-(1-4)", "3", "1--1", "2", "0012", "12", "9999", "9999", "0-9999", "-9999", "----1", "1",
            "((((5))))", "5", "1+(2+(3+(4+5)))", "15", "1+2*(3+4*(5+6*(7+8*9)))", "3839",
            "9*8-(7*6-(5*4-(3*2-1*0)))", "44", "9999*9999*9999", String.valueOf(9999 * 9999 * 9999),
            "-3+5", "2", "3*-2+1", "-5", "-3%2-1", "-2", "2-3*4-5", "-15",
        };
        QueryStore store = Checks.storeWith(1, "8,0,0");
        for (int i = 0; i < due.length; i += 2) {
            checks.gives(store, "S1" + due[i], 0, 1, due[i + 1]);
        }
        checks.gives(store, "S1?+1,?-1,?*2", Integer.MAX_VALUE, 1, "-2147483648,2147483646,-2");
        checks.gives(store, "S1-?,?/-1,?%-1", Integer.MIN_VALUE, 1, "-2147483648,-2147483648,0");
        checks.gives(store, "S1?*?,?-1,?/2", Integer.MIN_VALUE, 1, "0,2147483647,-1073741824");
        checks.gives(store, "S17,8,1+2*(3+4*(5+6*(7+8*(9+1*2))))", 0, 1, "7,8,4607");
        checks.gives(store, "S1a[7=8|1+2*(3+4*(5+6*(7+8*(9+1*2))))<?]", 4608, 1, "8");
        checks.gives(store, "S1a[0+?=1+2*(3+4*(5+6*(7+8*(9+1*2))))]", 4607, 1, "8");
        checks.fails(store, "S11/?", 0, Checks.ARITHMETIC);
        checks.fails(store, "S11%?", 0, Checks.ARITHMETIC);
        checks.fails(store, "S10/(a-8)", 0, Checks.ARITHMETIC);
    }
}
