/** Promise 2: type. */
public final class TypeTest {
    public static void main(String[] args) {
        Checks checks = new Checks();
        order(checks);
        bytesOutOfRange(checks);
        fullText(checks);
        checks.finish();
    }

    private static void order(Checks checks) {
        QueryStore store = new QueryStore();
        checks.same("type(0)", store.type(0), 0);
        checks.same("type of one", store.type((long) 'S' << 56), 1);
        checks.same("type with zeros between", store.type((long) '2' << 40 | (long) '7' << 16 | '-'), 4);
        checks.same("type of eight", store.type(Checks.packed("4*5-6-3%")), 12);
        checks.same("type in parts", store.type((long) '2' << 8), 13);
        checks.same("length", store.count(1), 13);
        checks.same("read", store.ask(0), 0);
        checks.same("length behind ask", store.count(1), 0);
        Checks.ask(store, "I2(1,1,1)");
        store.type((long) 'S' << 56 | '2');
        store.type((long) '9' << 48 | '-');
        store.type((long) '5' << 32);
        checks.same("read", store.ask(0), 1);
        checks.same("highest byte first", store.value(0, 0), 4);
    }

    private static void bytesOutOfRange(Checks checks) {
        QueryStore store = new QueryStore();
        checks.same("type of !", store.type(33), 1);
        checks.same("type of ~", store.type(126), 2);
        int[] bad = {1, 10, 31, 32, 127, 128, 160, 255};
        for (int c : bad) {
            checks.throwsThat("type of byte " + c, Checks.BAD, () -> store.type(c));
            checks.throwsThat("type of high byte " + c, Checks.BAD, () -> store.type((long) c << 56));
            checks.throwsThat("type of byte behind good ones " + c, Checks.BAD,
                    () -> store.type((long) 'a' << 24 | (long) 'a' << 16 | c));
        }
        checks.throwsThat("type(-1)", Checks.BAD, () -> store.type(-1));
        checks.same("none was added", store.count(1), 2);
    }

    private static void fullText(Checks checks) {
        QueryStore store = new QueryStore();
        for (int i = 1; i <= 5; i++) {
            checks.same("type of eight", store.type(Checks.packed("aaaaaaaa")), 8 * i);
        }
        checks.same("type of six", store.type(Checks.packed("aaaaaa")), 46);
        checks.throwsThat("three more", Checks.STATE, () -> store.type(Checks.packed("aaa")));
        checks.same("none was added", store.count(1), 46);
        checks.throwsThat("bad comes first", Checks.BAD, () -> store.type(Checks.packed("aaa ")));
        checks.same("the last two", store.type(Checks.packed("aa")), 48);
        checks.throwsThat("one more", Checks.STATE, () -> store.type('a'));
        checks.same("nothing more", store.type(0), 48);
        checks.throwsThat("no statement", Checks.BAD, () -> store.keep(0));
        checks.same("typed anew", store.type('a'), 1);
    }
}
