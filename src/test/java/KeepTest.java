/** Promise 3: keep, with the reading of texts and THE PLACE. */
public final class KeepTest {
    // A text that is no statement, and its place.
    private static final String[] UNREADABLE = {
        "", "0", "X", "0", "i0(1,1,1)", "0", "I", "1", "I3", "1", "Ia", "1", "I0", "2", "I01", "2", "I0(", "3",
        "I0()", "3", "I0(1", "4", "I0(1,", "5", "I0(1,2", "6", "I0(1,2)", "6", "I0(1,2,3", "8", "I0(1,2,3,", "8",
        "I0(1,2,3)[1=1]", "9", "I0(1,2,3)^a", "9", "I0(a,1,1)", "3", "I0(1,1+b,1)", "7", "I0(1,1,(c))", "8",
        "I0(1,,1)", "5", "I0(1;1,1)", "4", "D", "1", "D9", "1", "D0a", "2", "D0^a", "2", "D0[", "3", "D0[]", "3",
        "D0[1]", "4", "D0[1<]", "5", "D0[1<2", "6", "D0[1<2]]", "7", "D0[1<2]^a", "7", "D0[1<=2]", "5",
        "D0[1<2&]", "7", "D0[1<2&&1<2]", "7", "D0[1<2|]", "7", "D0[|1<2]", "3", "D0[d=1]", "3", "D0[(1<2)]", "5",
        "D0[1=2=3]", "6", "U", "1", "U0", "2", "U0a=1", "2", "U0d=1", "2", "U0b", "3", "U0b1", "3", "U0b=", "4",
        "U0b=1,2", "5", "U0b=1^a", "5", "U0b=d", "4", "U0b=e[1=1]", "4", "S", "1", "S0", "2", "S00,", "4",
        "S0,a", "2", "S0a,b,c,a", "7", "S0a,", "4", "S0a^", "4", "S0a^d", "4", "S0a^1", "4", "S0a^a^b", "5",
        "S0a^a[1=1]", "5", "S0a[1=1][1=1]", "8", "S0d", "2", "S0f", "2", "S0ab", "3", "S0a1", "3",
        "S01a", "3", "S0+1", "2", "S01+", "4", "S01+*1", "4", "S01*/1", "4", "S0()", "3", "S0(1", "4",
        "S0(1))", "5", "S0?1", "3", "S0??", "3", "S0#", "2", "P", "1", "P0", "2", "P0a", "2", "P03", "2",
        "P01", "3", "P01g", "3", "P01a^g", "5", "P01a,b,c,d", "8", "P01a[g=1]", "5", "A0", "2", "A0a", "2",
        "A0-a", "2", "A0+", "3", "A0++1", "3", "A0+a,b", "4", "A0+a^a", "4", "A0=a", "2", "A0+d", "3", "B0", "2",
        "B0+a", "2", "B01", "3", "B01a", "3", "B01>", "4", "B01>g", "4", "B01#a^a", "5",
        "S0-----1", "6", "S0(((((1", "6", "S0-(-(-1))", "6", "S0((((-1))))", "6", "S0((((1+(1))))", "8",
        "S01+((((1*-", "10", "S0a[((((1))))<((((-", "18", "S012345", "6", "S000000", "6", "S01+99999", "8",
        "S01234a", "6", "S0a[1<99999]", "10",
    };

    // A statement, and how many ? it has.
    private static final String[] READABLE = {
        "I0(1,2,3)", "0", "I1(?,?*?,-?)", "4", "I2((1),--1,0)", "0", "D0", "0", "D1[a=?]", "1",
        "D2[a<1&b=2|c>3&?=?]", "2", "U0b=1", "0", "U1c=?[?=1|?=2]", "3", "S0a", "0", "S0a,b", "0", "S0a,b,c", "0",
        "S0?,?,?", "3", "S0a^b", "0", "S0a[a=?]^c", "1", "S01234", "0", "S00", "0", "S00000", "0", "S0----1", "0",
        "S0((((1))))", "0", "S0-(-(1))", "0", "S0((((1+1)*2)-3)%4)/5", "0", "S0((((?))))+((((?))))", "2",
        "P00a,d", "0", "P12f^f", "0", "P20a,e,?[b=e]^d", "1", "A0+a", "0", "A0#1", "0", "A0>?", "1", "A0<-c", "0",
        "A0+a[a=1]", "0", "B01+f", "0", "B22<a-d[?>e]", "1", "B00>1", "0", "B00#1", "0",
        "D0[?=?&?=?&?=?|?=?&?=?&?=?|?=?&?=?|?=?|?=?|?=1]", "21",
        "A0+--?+--?+--?+--?+--?+--?+--?+--?+--?+--?+--?+?", "12",
    };

    public static void main(String[] args) {
        Checks checks = new Checks();
        unreadable(checks);
        readable(checks);
        oneAfterAnother(checks);
        whatIsKept(checks);
        numbers(checks);
        checks.finish();
    }

    private static void unreadable(Checks checks) {
        for (int i = 0; i < UNREADABLE.length; i += 2) {
            String text = UNREADABLE[i];
            QueryStore store = new QueryStore();
            checks.throwsThat("keep " + text, Checks.BAD, () -> Checks.keep(store, 0, text));
            checks.same("place of " + text, store.count(0), Integer.parseInt(UNREADABLE[i + 1]));
            checks.same("length behind " + text, store.count(1), 0);
            checks.same("kept behind " + text, store.count(2), 0);
        }
    }

    private static void readable(Checks checks) {
        for (int i = 0; i < READABLE.length; i += 2) {
            QueryStore store = new QueryStore();
            checks.same("keep " + READABLE[i], Checks.keep(store, 3, READABLE[i]), Integer.parseInt(READABLE[i + 1]));
            checks.same("place behind " + READABLE[i], store.count(0), -1);
            checks.same("length behind " + READABLE[i], store.count(1), 0);
            checks.same("kept behind " + READABLE[i], store.count(2), 1);
        }
    }

    // What one statement has, the next one that takes its place has not.
    private static void oneAfterAnother(Checks checks) {
        QueryStore store = new QueryStore();
        for (int i = 0; i < READABLE.length; i += 2) {
            int due = Integer.parseInt(READABLE[i + 1]);
            checks.same("keep " + READABLE[i], Checks.keep(store, i % 4, READABLE[i]), due);
        }
    }

    private static void whatIsKept(Checks checks) {
        QueryStore store = Checks.storeWith(0, "5,6,7");
        for (int k = 0; k < 4; k++) {
            Checks.keep(store, k, "S0" + k);
            checks.same("kept", store.count(2), k + 1);
        }
        for (int k = 0; k < 4; k++) {
            store.run(k, 0);
            checks.same("value of statement " + k, store.value(0, 0), k);
        }
        Checks.keep(store, 2, "S0a+?");
        checks.same("kept in another's place", store.count(2), 4);
        store.run(2, 10);
        checks.same("the new one", store.value(0, 0), 15);
        checks.throwsThat("no statement", Checks.BAD, () -> Checks.keep(store, 2, "S0a+"));
        store.run(2, 20);
        checks.same("the old one stays", store.value(0, 0), 25);
        Checks.ask(store, "S0b");
        store.run(2, 30);
        checks.same("an ask takes no place", store.value(0, 0), 35);
        checks.same("place stays", store.count(0), 4);
    }

    private static void numbers(Checks checks) {
        QueryStore store = new QueryStore();
        Checks.type(store, "S0");
        int[] bad = {-1, 4, Integer.MIN_VALUE, Integer.MAX_VALUE};
        for (int k : bad) {
            checks.throwsThat("keep(" + k + ")", Checks.BAD, () -> store.keep(k));
            checks.same("the text stays", store.count(1), 2);
            checks.same("it isn't read", store.count(0), -1);
        }
        Checks.type(store, "a");
        checks.same("keep", store.keep(0), 0);
        checks.same("kept", store.count(2), 1);
    }
}
