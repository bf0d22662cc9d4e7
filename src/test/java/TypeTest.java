/** Promise 2: type. */
public final class TypeTest {
    private static final String WHERE = "Promise 2: type";

    public static void main(String[] args) {
        Checks checks = new Checks();
        checks.sentence(WHERE, "Adds the eight bytes of the number, highest first", TypeTest::highestFirst);
        checks.sentence(WHERE, "those that are 0 left out", TypeTest::zeros);
        checks.sentence(WHERE, "One not 33 .. 126: bad", TypeTest::bytesOutOfRange);
        checks.sentence(WHERE, "more than 48 in all: IllegalStateException", TypeTest::moreThanFits);
        checks.sentence(WHERE, "then none is added", TypeTest::noneIsAdded);
        checks.sentence(WHERE, "Answers its length", TypeTest::length);
        checks.finish();
    }

    private static void highestFirst(Checks checks) {
        QueryStore store = Checks.storeWith(2, "1,1,1");
        store.type(0x5332_3938_3736_2d39L);
        store.type(0x3837_3500_0000_0000L);
        checks.same("ask of S29876-9875", store.ask(0), 1);
        checks.same("its value", store.value(0, 0), 1);
        checks.same("type of eight bytes", store.type(0x5332_612c_622c_632bL), 8);
        checks.same("type of the last one", store.type(0x37L), 9);
        checks.same("ask of S2a,b,c+7", store.ask(0), 1);
        checks.sameText("its result", Checks.result(store), "1,1,8");
    }

    private static void zeros(Checks checks) {
        QueryStore store = Checks.storeWith(1, "1,1,1");
        checks.same("type(0)", store.type(0), 0);
        for (int shift = 0; shift < 64; shift += 8) {
            QueryStore other = new QueryStore();
            checks.same("type of one byte", other.type((long) 'D' << shift), 1);
            checks.same("type(0)", other.type(0), 1);
            checks.same("type of another", other.type((long) '0' << 56 - shift), 2);
            checks.same("ask of D0", other.ask(0), 0);
        }
        store.type((long) 'S' << 48 | (long) '1' << 8);
        store.type((long) '9' << 56 | (long) '-' << 24 | '5');
        checks.same("ask of S19-5", store.ask(0), 1);
        checks.same("its value", store.value(0, 0), 4);
    }

    private static void bytesOutOfRange(Checks checks) {
        for (int shift = 0; shift < 64; shift += 8) {
            for (int c = 1; c < 256; c++) {
                QueryStore store = new QueryStore();
                long others = Checks.packed("S0S0S0S0") & ~(255L << shift);
                long eight = others | (long) c << shift;
                if (c >= 33 && c <= 126) {
                    checks.same("type of byte " + c, store.type(eight), 8);
                } else {
                    checks.throwsThat("type of byte " + c, Checks.BAD, () -> store.type(eight));
                }
            }
        }
        QueryStore store = new QueryStore();
        checks.throwsThat("type(-1)", Checks.BAD, () -> store.type(-1));
        checks.throwsThat("type of the least", Checks.BAD, () -> store.type(Long.MIN_VALUE));
        checks.throwsThat("type of the greatest", Checks.BAD, () -> store.type(Long.MAX_VALUE));
    }

    private static void moreThanFits(Checks checks) {
        for (int before = 40; before <= 48; before++) {
            for (int more = 0; more <= 8; more++) {
                QueryStore store = withLength(before);
                long eight = Checks.packed("--------".substring(8 - more));
                if (before + more <= 48) {
                    checks.same(before + " and " + more, store.type(eight), before + more);
                } else {
                    checks.throwsThat(before + " and " + more, Checks.STATE, () -> store.type(eight));
                }
            }
        }
    }

    private static void noneIsAdded(Checks checks) {
        QueryStore store = withLength(46);
        checks.refused("three more than 46", store, Checks.STATE, () -> store.type(Checks.packed("+1+")));
        checks.refused("two and a bad one", store, Checks.BAD, () -> store.type(Checks.packed("+1 ")));
        checks.refused("a bad one and two", store, Checks.BAD, () -> store.type(Checks.packed("\u007f+1")));
        checks.same("the two that fit", store.type(Checks.packed("+2")), 48);
        checks.refused("one more than 48", store, Checks.STATE, () -> store.type('1'));
        checks.same("keep of what was added", store.keep(0), 0);
        checks.same("statements kept", store.count(2), 1);
    }

    private static void length(Checks checks) {
        QueryStore store = new QueryStore();
        checks.same("of none", store.type(0), 0);
        checks.same("of one", store.type('S'), 1);
        checks.same("of nine", store.type(Checks.packed("12345678")), 9);
        checks.same("of nine and none", store.type(0), 9);
        checks.throwsThat("keep", Checks.BAD, () -> store.keep(0));
        checks.same("of none behind keep", store.type(0), 0);
        checks.same("of one behind keep", store.type('S'), 1);
        checks.same("of none in a full text", withLength(48).type(0), 48);
    }

    /** A store whose text begins S01 and goes on with sums, so that all of it can be read. */
    private static QueryStore withLength(int length) {
        QueryStore store = new QueryStore();
        StringBuilder text = new StringBuilder("S01");
        while (text.length() < length - 1) {
            text.append("+1");
        }
        Checks.type(store, (length > text.length() ? text.append('1') : text).toString());
        return store;
    }
}
