/** Promise 3: keep. */
public final class KeepTest {
    private static final String WHERE = "Promise 3: keep";
    private static final int[] OUT_OF_RANGE = {-1, 4, 5, Checks.LEAST, Checks.GREATEST};

    // A statement, and how many ? it has.
    private static final String[] PARAMETERS = {
        "D0", "0", "I0(1,2,3)", "0", "I1(?,?*?,-?)", "4", "I2((1),--1,0)", "0", "D1[a=?]", "1",
        "D2[a<1&b=2|c>3&?=?]", "2", "U0b=1", "0", "U1c=?[?=1|?=2]", "3", "S0a", "0", "S0?,?,?", "3", "S0a^b", "0",
        "S0a[a=?]^c", "1", "S0((((?))))+((((?))))", "2", "P00a,d", "0", "P20a,e,?[b=e]^d", "1", "A0>?", "1",
        "B22<a-d[?>e]", "1", "B00#1", "0", "D0[?=?&?=?&?=?|?=?&?=?&?=?|?=?&?=?|?=?|?=?|?=1]", "21",
        "A0+?+?+?+?+?+?+?+?+?+?+?+?+?+?+?+?+?+?+?+?+?+?+?", "23",
        "B00+1+1+1+1+1+1+1+1+1+1+1+1+1+1+1+1+1+1+1+1+1+1", "0",
    };

    public static void main(String[] args) {
        Checks checks = new Checks();
        checks.sentence(WHERE, "READS THE TEXT, which is empty then", KeepTest::emptyThen);
        checks.sentence(WHERE, "(but not where k is out of range)", KeepTest::numbersOutOfRange);
        checks.sentence(WHERE, "the STATEMENT is kept as number k (0 .. 3)", KeepTest::fourNumbers);
        checks.sentence(WHERE, "kept as number k", KeepTest::keptInAnothersPlace);
        checks.sentence(WHERE, "throws IllegalArgumentException", KeepTest::textsRefused);
        checks.sentence(WHERE, "Answers how many ? it has", KeepTest::parameters);
        checks.finish();
    }

    private static void emptyThen(Checks checks) {
        QueryStore store = new QueryStore();
        checks.same("keep", Checks.keep(store, 0, "D0"), 0);
        checks.same("length behind a statement", store.count(1), 0);
        checks.throwsThat("keep of the empty text", Checks.BAD, () -> store.keep(0));
        checks.same("length behind the empty text", store.count(1), 0);
        checks.throwsThat("keep of D0[", Checks.BAD, () -> Checks.keep(store, 0, "D0["));
        checks.same("length behind no statement", store.count(1), 0);
        Checks.type(store, "D1");
        checks.same("length of the next text", store.count(1), 2);
        checks.same("keep of the next text", store.keep(0), 0);
    }

    private static void numbersOutOfRange(Checks checks) {
        QueryStore store = new QueryStore();
        Checks.type(store, "D0[?=");
        for (int k : OUT_OF_RANGE) {
            checks.refused("keep(" + k + ")", store, Checks.BAD, () -> store.keep(k));
            checks.same("length behind keep(" + k + ")", store.count(1), 5);
            checks.same("place behind keep(" + k + ")", store.count(0), -1);
        }
        Checks.type(store, "?]");
        for (int k : OUT_OF_RANGE) {
            checks.refused("keep(" + k + ") of a statement", store, Checks.BAD, () -> store.keep(k));
        }
        checks.same("keep of what stayed", store.keep(3), 2);
    }

    private static void fourNumbers(Checks checks) {
        QueryStore store = Checks.storeWith(0, "5,6,7");
        for (int k = 0; k < 4; k++) {
            Checks.keep(store, 3 - k, "S0" + (3 - k) + "+a");
            checks.same("statements kept", store.count(2), k + 1);
        }
        for (int k = 0; k < 4; k++) {
            checks.same("run(" + k + ")", store.run(k, 0), 1);
            checks.same("value of statement " + k, store.value(0, 0), 5 + k);
        }
        checks.throwsThat("keep(-1)", Checks.BAD, () -> Checks.keep(store, -1, "D0"));
        checks.throwsThat("keep(4)", Checks.BAD, () -> store.keep(4));
        checks.same("statements kept", store.count(2), 4);
    }

    private static void keptInAnothersPlace(Checks checks) {
        QueryStore store = Checks.storeWith(0, "5,6,7");
        for (int times = 0; times < 12; times++) {
            Checks.keep(store, 2, "S0a+" + times);
            checks.same("statements kept", store.count(2), 1);
            store.run(2, 0);
            checks.same("value of the latest one", store.value(0, 0), 5 + times);
        }
        Checks.keep(store, 0, "S0b");
        Checks.keep(store, 2, "S0c");
        store.run(0, 0);
        checks.same("value of the other one", store.value(0, 0), 6);
        store.run(2, 0);
        checks.same("value of the latest one", store.value(0, 0), 7);
    }

    private static void textsRefused(Checks checks) {
        QueryStore store = Checks.storeWith(0, "5,6,7");
        checks.throwsThat("keep of the empty text", Checks.BAD, () -> store.keep(2));
        checks.throwsThat("keep of D", Checks.BAD, () -> Checks.keep(store, 2, "D"));
        checks.throwsThat("keep of S0a;", Checks.BAD, () -> Checks.keep(store, 2, "S0a;"));
        checks.same("statements kept", store.count(2), 0);
        checks.throwsThat("run of what wasn't kept", Checks.NOT_THERE, () -> store.run(2, 0));
        Checks.keep(store, 2, "S0b+?");
        checks.throwsThat("keep of S0a+", Checks.BAD, () -> Checks.keep(store, 2, "S0a+"));
        checks.same("statements kept", store.count(2), 1);
        checks.same("run of the one before", store.run(2, 10), 1);
        checks.same("its value", store.value(0, 0), 16);
    }

    // All in one store, so that what one statement has the next one that takes its place has not.
    private static void parameters(Checks checks) {
        QueryStore store = new QueryStore();
        for (int i = 0; i < PARAMETERS.length; i += 2) {
            String text = PARAMETERS[i];
            checks.same("keep of " + text, Checks.keep(store, i % 4, text), Integer.parseInt(PARAMETERS[i + 1]));
        }
    }
}
