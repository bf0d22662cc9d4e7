/** Terms: THE TEXT, and how the statements' forms are written. */
public final class TextTest {
    private static final String TEXT = "Terms, THE TEXT";
    private static final String FORMS = "Terms, x? and x*";

    public static void main(String[] args) {
        Checks checks = new Checks();
        checks.sentence(TEXT, "THE TEXT has at most 48 characters", TextTest::fortyEight);
        checks.sentence(TEXT, "empty at first", TextTest::emptyAtFirst);
        checks.sentence(FORMS, "x? may be missing", TextTest::mayBeMissing);
        checks.sentence(FORMS, "x* comes any number of times", TextTest::anyNumberOfTimes);
        checks.finish();
    }

    private static void fortyEight(Checks checks) {
        String text = "S01+1+1+1+1+1+1+1+1+1+1+1+1+1+1+1+1+1+1+1+1+1+12";
        checks.same("length of the text", text.length(), 48);
        QueryStore store = Checks.filled(0, 1);
        Checks.type(store, text);
        checks.same("length", store.count(1), 48);
        checks.refused("one more", store, Checks.STATE, () -> store.type('3'));
        checks.same("ask of 48 characters", store.ask(0), 1);
        checks.same("its value", store.value(0, 0), 34);
    }

    private static void emptyAtFirst(Checks checks) {
        QueryStore store = new QueryStore();
        checks.same("length at first", store.count(1), 0);
        checks.throwsThat("keep of the empty text", Checks.BAD, () -> store.keep(0));
        checks.same("its place", store.count(0), 0);
        QueryStore other = new QueryStore();
        checks.throwsThat("ask of the empty text", Checks.BAD, () -> other.ask(0));
        checks.same("its place", other.count(0), 0);
    }

    private static void mayBeMissing(Checks checks) {
        String[] missing = {"D0", "U0b=1", "S0a", "S0a[a=1]", "S0a^b", "P01a", "P01a[a=1]", "P01a^f", "A0+a", "B01+a"};
        String[] there = {"D0[a=1]", "U0b=1[a=1]", "S0a[a=1]^b", "P01a[a=1]^f", "A0+a[a=1]", "B01+a[a=1]"};
        for (String text : missing) {
            checks.reads(text);
        }
        for (String text : there) {
            checks.reads(text);
        }
    }

    // No times, and as many times as fit in the text; what decides comes last.
    private static void anyNumberOfTimes(Checks checks) {
        QueryStore store = Checks.filled(0, 1);
        checks.gives(store, "A0#1[0=1|0=1|0=1|0=1|0=1|0=1|0=1|0=1|0=1|0=1]", 0, 1, "0");
        checks.gives(store, "A0#1[0=1|0=1|0=1|0=1|0=1|0=1|0=1|0=1|0=1|1=1]", 0, 1, "1");
        checks.gives(store, "A0#1[1=1&1=1&1=1&1=1&1=1&1=1&1=1&1=1&1=1&1=1]", 0, 1, "1");
        checks.gives(store, "A0#1[1=1&1=1&1=1&1=1&1=1&1=1&1=1&1=1&1=1&0=1]", 0, 1, "0");
        checks.gives(store, "A0#1[1=1]", 0, 1, "1");
        checks.gives(store, "A0+1+1+1+1+1+1+1+1+1+1+1+1+1+1+1+1+1+1+1+1+1+1+9", 0, 1, "31");
        checks.gives(store, "A0+2*2*2*2*2*2*2*2*2*2*2*2*2*2*2*2*2*2*2*2*2*2*3", 0, 1, "12582912");
        checks.gives(store, "A0+7", 0, 1, "7");
    }
}
