import java.util.Arrays;

/** The paragraph about the answers of several refusals: which comes first, and that a refused call changes nothing. */
public final class RefusalsTest {
    private static final String PART = "Answers";
    private static final int SIGNED_WRONG = -1000000001;
    private static final long LONG_WRONG = -4000000000000000001L;
    private static final long LONG_CANNOT = -4000000000000000003L;
    private static final long LONG_NONE = -4000000000000000004L;

    /** One call of an object. */
    private interface Call {
        long on(CandleBar x);
    }

    /** How an object is made, always alike. */
    private interface Maker {
        CandleBar make();
    }

    private RefusalsTest() {
    }

    public static void main(String[] args) {
        String[] firstHere = {
            "Answers of several refusals are the first one here:", "-1 no such thing, a number out of range, or not as told;",
            "-2 no room;", "-3 it can't be as things stand;", "-4 none;", "-100 less a FAULT;", "-11 to -15;",
            "where numbers that may be below 0 are answered (told at the call), 1000000000 less;",
            "of longs 4000000000000000000 less.",
        };
        Document.Test[] tests = {
            RefusalsTest::shelvesInOrder, RefusalsTest::wrongIsFirst, RefusalsTest::noRoomIsSecond, RefusalsTest::cannot,
            RefusalsTest::none, RefusalsTest::faults, RefusalsTest::ofShelves, RefusalsTest::signed, RefusalsTest::longs,
        };
        for (int k = 0; k < tests.length; k++) {
            Document.says(PART, firstHere[k], tests[k]);
        }
        Document.says(PART, "A refused call changes nothing.", RefusalsTest::refusedChangesNothing);
        Document.says("Not promised", "Nothing is promised beyond the answers and state changes described above",
                RefusalsTest::questionsChangeNothing);
        Check.finish();
    }

    // ---- how the objects are made

    private static CandleBar empty() {
        return new CandleBar();
    }

    /** Twelve LIGHTS, no STANDARD, no MATCH, no IMAGE; LIGHT 0 has burnt 99001 HOURS. */
    private static CandleBar burnt() {
        CandleBar x = new CandleBar();
        for (int k = 0; k <= 11; k++) {
            x.light(k % 8, 100 + 10 * k, 8 * k, 50 + 10 * k);
        }
        for (int k = 0; k < 99; k++) {
            x.burn(0, 999);
        }
        x.burn(0, 100);
        return x;
    }

    /** All that there may be: LIGHTS, MATCHES, BILLS; an IMAGE; SHELVES that hold a LIGHT, each SORT, a METAL, texts. */
    private static CandleBar full() {
        CandleBar x = new CandleBar();
        for (int k = 0; k <= 11; k++) {
            x.light(k % 8, 100 + 10 * k, 8 * k, 50 + 10 * k);
        }
        x.burn(4, 200);
        x.burn(7, 300);
        x.damp(7);
        x.eye(1, 0, 150);
        x.eye(1, 1, 60);
        x.eye(1, 2, 4);
        for (int k = 0; k <= 29; k++) {
            // LIGHTS 10 and 11 stay by themselves.
            x.match(k % 10, (k + 1) % 10, k % 7, k);
        }
        x.out(3, true);
        x.standard(2);
        Check.write(x, 2, "s+d");
        x.rule(2);
        for (int k = 0; k <= 19; k++) {
            x.bill(k % 4, k % 12, 1 + k);
        }
        x.image();
        x.setting(0, 9);
        x.damp(8);
        x.out(4, true);
        x.eye(1, 2, 5);
        x.standard(3);
        x.keep(1, 1, 3);
        x.keep(6, 1, 6);
        Check.fill(x, 3, Check.SHORTS, 1, 2, 3, 4);
        Check.fill(x, 4, Check.INTS, 5, 6);
        Check.fill(x, 5, Check.BYTES, 's', '+');
        return x;
    }

    /** Two LIGHTS that nothing joins, and an EYE 0 without a LAW for another two. */
    private static CandleBar lawless() {
        CandleBar x = Check.lamps(100, 100, 100, 100);
        Check.tell(x, 0, 1, 0, 99, 0);
        return x;
    }

    // ---- which refusal comes first

    private static void shelvesInOrder() {
        CandleBar x = full();
        Check.due("-1 ahead of -14", x.row(8, 0, -1), -1);
        Check.due("-1 ahead of -11", x.copy(0, 0, 8, 0, 1), -1);
        Check.due("-11 ahead of -12", x.copy(1, 0, 0, 0, 1), -11);
        Check.due("-11 ahead of -13", x.put(0, -1, 0), -11);
        Check.due("-12 ahead of -13", x.put(1, -1, 0), -12);
        Check.due("-12 ahead of -13", x.copy(3, -1, 4, -1, -1), -12);
        Check.due("-11 ahead of all but -1", x.copy(1, -1, 0, -1, -1), -11);
    }

    private static void wrongIsFirst() {
        CandleBar x = burnt();
        Check.due("light: ahead of -2", x.light(8, 1, 0, 0), -1);
        Check.due("burn: ahead of -2", x.burn(0, 1000), -1);
        Check.due("bill: ahead of -3", x.bill(0, 0, 0), -1);
        Check.due("chain: ahead of -4", x.chain(0, 1, -2), -1);
        x = full();
        Check.due("match: ahead of -2", x.match(0, 0, 0, 0), -1);
        Check.due("bill: ahead of -2", x.bill(0, 12, 1), -1);
        x = lawless();
        Check.due("laws: ahead of -4", x.laws(0, 51, 0), -1);
        Check.due("parts: ahead of -4", x.parts(0, 0, 1, 1), -1);
        Check.due("show: ahead of -4", x.show(0, -1), -1);
        Check.due("best: ahead of -4", x.best(1000, 0, 1, 1), -1);
        Check.due("span: ahead of -4", x.span(0, 2, 3, 0), LONG_WRONG);
        Check.due("worth: ahead of -3", x.worth(4), LONG_WRONG);
        Check.due("owed: ahead of -3", x.owed(4), LONG_WRONG);
    }

    private static void noRoomIsSecond() {
        CandleBar x = full();
        Check.due("light", x.light(0, 1, 0, 0), -2);
        Check.due("match", x.match(0, 1, 0, 0), -2);
        Check.due("bill", x.bill(0, 0, 1), -2);
        Check.due("burn", burnt().burn(0, 999), -2);
    }

    private static void cannot() {
        CandleBar x = burnt();
        Check.due("bill", x.bill(0, 0, 1), -3);
        Check.due("restore", x.restore(), -3);
        Check.due("worth", x.worth(0), LONG_CANNOT);
        Check.due("owed", x.owed(0), LONG_CANNOT);
    }

    private static void none() {
        CandleBar x = lawless();
        Check.due("chain", x.chain(0, 2, -1), -4);
        Check.due("span", x.span(0, 2, 0, 0), LONG_NONE);
        Check.due("laws", x.laws(0, 0, 0), -4);
        Check.due("parts", x.parts(0, 0, 2, 3), -4);
        Check.due("show", x.show(0, 0), -4);
        Check.due("best", x.best(1000, 0, 0, 1), -4);
        Check.due("standard", x.standard(0), -4);
        Check.due("narrows", empty().narrows(), -4);
    }

    private static void faults() {
        CandleBar x = full();
        Check.due("a fault at 2", x.rule(5), -102);
        x.row(0, Check.BYTES, 0);
        Check.due("a fault at 0", x.rule(0), -100);
        Check.due("told as it is", x.fault(0), 0);
    }

    private static void ofShelves() {
        CandleBar x = full();
        Check.due("-11", x.gives(0), -11);
        Check.due("-12", x.gives(3), -12);
        Check.due("-13", x.put(3, 4, 0), -13);
        Check.due("-14", x.row(3, 0, -1), -14);
        Check.due("-15", x.toss(6), -15);
    }

    private static void signed() {
        CandleBar x = full();
        Check.due("disagree", x.disagree(0, 1, 0, 0, 0), SIGNED_WRONG);
        Check.due("right", x.right(12), SIGNED_WRONG);
        Check.due("gain", x.gain(128, 1000, 0, 0, false), SIGNED_WRONG);
    }

    private static void longs() {
        CandleBar x = full();
        Check.due("seen", x.seen(12, 0, 0), LONG_WRONG);
        Check.due("span", x.span(0, 12, 0, 0), LONG_WRONG);
        Check.due("span of none", x.span(0, 11, 0, 0), LONG_NONE);
        Check.due("worth", x.worth(12), LONG_WRONG);
        Check.due("paid", x.paid(20), LONG_WRONG);
        Check.due("owed", x.owed(4), LONG_WRONG);
        Check.due("worth without a standard", lawless().worth(0), LONG_CANNOT);
    }

    // ---- a refused call changes nothing

    /** All that can be told of an object; some of the calls change it, so that it is of no use afterwards. */
    private static long[] tellAll(CandleBar x, boolean restored) {
        long[] told = new long[400];
        int n = 0;
        told[n++] = restored ? x.restore() : 0;
        for (int what = 0; what <= 5; what++) {
            told[n++] = x.count(what);
        }
        for (int k = 0; k <= 11; k++) {
            for (int what = 0; what <= 4; what++) {
                told[n++] = x.of(k, what);
            }
            told[n++] = x.right(k);
        }
        for (int k = 0; k <= 29; k++) {
            for (int what = 0; what <= 5; what++) {
                told[n++] = x.told(k, what);
            }
        }
        for (int k = 0; k <= 19; k++) {
            told[n++] = x.paid(k);
        }
        for (int house = 0; house <= 3; house++) {
            told[n++] = x.owed(house);
        }
        for (int d = 0; d <= 7; d++) {
            told[n++] = x.gives(d);
            told[n++] = x.toss(d);
            for (int i = 0; i <= 3; i++) {
                told[n++] = elementOr(x, d, i, -999);
            }
            // The SORT of a ROW shows by the bits that it keeps.
            told[n++] = x.fault(d);
            told[n++] = x.put(d, 0, 98304);
            told[n++] = elementOr(x, d, 0, -999);
        }
        for (int eye = 0; eye <= 7; eye++) {
            for (int what = 0; what <= 2; what++) {
                told[n++] = x.eye(eye, what, 1);
            }
        }
        told[n++] = x.damp(0);
        told[n++] = x.standard(0);
        return told;
    }

    private static final boolean[] BOTH = {false, true};

    /** Each call is made on an object of its own, which then tells all as one does on which it wasn't made. */
    private static void changeNothing(String how, Maker maker, boolean refused, Call... calls) {
        for (boolean restored : BOTH) {
            long[] want = tellAll(maker.make(), restored);
            for (int k = 0; k < calls.length; k++) {
                CandleBar x = maker.make();
                long got = calls[k].on(x);
                Check.isTrue(how + ", call " + k + " answers " + got, !refused || got < 0);
                long[] told = tellAll(x, restored);
                int place = Arrays.mismatch(told, want);
                Check.due(how + ", call " + k + " changed what is told (restored: " + restored + ") at", place, -1);
            }
        }
    }

    /** Element i of the ROW, or what is told for an exception. */
    private static long elementOr(CandleBar x, int d, int i, long otherwise) {
        String element = Check.element(x, d, i);
        return element.startsWith("I") ? otherwise : Long.parseLong(element);
    }

    private static void refusedChangesNothing() {
        changeNothing("refused, empty", RefusalsTest::empty, true, ofEmpty());
        changeNothing("refused, burnt", RefusalsTest::burnt, true, ofBurnt());
        changeNothing("refused, full: lights, eyes", RefusalsTest::full, true, ofFullLights());
        changeNothing("refused, full: matches, laws", RefusalsTest::full, true, ofFullMatches());
        changeNothing("refused, full: rules, bills", RefusalsTest::full, true, ofFullRules());
        changeNothing("refused, full: inspectors, shelves", RefusalsTest::full, true, ofFullShelves());
        changeNothing("refused, lawless", RefusalsTest::lawless, true, x -> x.laws(0, 0, 0), x -> x.parts(0, 0, 2, 3),
                x -> x.show(0, 0), x -> x.chain(0, 2, -1), x -> x.span(0, 2, 0, 0), x -> x.bill(0, 0, 1),
                x -> x.worth(0), x -> x.owed(0), x -> x.restore());
    }

    private static Call[] ofEmpty() {
        return new Call[] {
            x -> x.light(8, 1, 0, 0), x -> x.light(0, 0, 0, 0), x -> x.setting(0, 5), x -> x.burn(0, 5), x -> x.of(0, 0),
            x -> x.seen(0, 0, 0), x -> x.alike(0, 1, 0, 0), x -> x.match(0, 1, 0, 0), x -> x.hear(0), x -> x.told(0, 0),
            x -> x.out(0, true), x -> x.chain(0, 0, -1), x -> x.span(0, 0, 0, 0), x -> x.parts(0, 0, 0, 1), x -> x.show(0, 0),
            x -> x.disagree(0, 1, 0, 1, 0), x -> x.stands(255, 0, 1), x -> x.fault(0), x -> x.rule(0), x -> x.right(0),
            x -> x.standard(0), x -> x.worth(0), x -> x.steady(1), x -> x.bill(0, 0, 1), x -> x.paid(0), x -> x.owed(0),
            x -> x.narrows(), x -> x.restore(), x -> x.keep(0, 1, 0), x -> x.row(0, 0, 101), x -> x.row(0, 0, -1),
            x -> x.put(0, 0, 1), x -> elementOr(x, 0, 0, -1), x -> x.copy(0, 0, 1, 0, 1), x -> x.gives(0), x -> x.toss(0),
        };
    }

    private static Call[] ofBurnt() {
        return new Call[] {
            x -> x.burn(0, 999), x -> x.burn(0, 1000), x -> x.burn(12, 1), x -> x.light(0, 1, 0, 0), x -> x.restore(),
            x -> x.bill(0, 0, 1), x -> x.worth(0), x -> x.owed(0), x -> x.standard(12), x -> x.standard(-1), x -> x.out(0, true),
            x -> x.match(0, 12, 0, 0), x -> x.chain(0, 1, -1), x -> x.span(0, 1, 0, 0), x -> x.steady(4096), x -> x.aged(101),
        };
    }

    private static Call[] ofFullLights() {
        return new Call[] {
            x -> x.light(0, 1, 0, 0), x -> x.light(8, 1, 0, 0), x -> x.setting(0, 201), x -> x.setting(12, 5),
            x -> x.setting(11, -1), x -> x.burn(0, 0), x -> x.burn(11, 1000), x -> x.burn(-1, 1), x -> x.damp(51), x -> x.damp(-1),
            x -> x.of(0, 7), x -> x.of(12, 0), x -> x.eye(0, 0, 0), x -> x.eye(1, 1, 201), x -> x.eye(1, 2, 21), x -> x.eye(1, 3, 5),
            x -> x.eye(8, 0, 5), x -> x.seen(12, 0, 0), x -> x.seen(0, 8, 0), x -> x.seen(0, 0, 10), x -> x.alike(0, 0, 0, 0),
            x -> x.alike(0, 1, 0, 10),
        };
    }

    private static Call[] ofFullMatches() {
        return new Call[] {
            x -> x.match(0, 1, 0, 0), x -> x.match(0, 0, 0, 0), x -> x.match(0, 1, 0, 1000), x -> x.hear(0), x -> x.hear(1),
            x -> x.hear(8), x -> x.told(30, 0), x -> x.told(0, 6), x -> x.out(30, true), x -> x.out(-1, true),
            x -> x.chain(0, 11, -1), x -> x.chain(0, 1, 4), x -> x.chain(0, 1, -2), x -> x.chain(0, 12, -1),
            x -> x.span(0, 11, 0, 0), x -> x.span(0, 1, 3, 0), x -> x.laws(0, 51, -1), x -> x.laws(0, 0, 400), x -> x.laws(8, 0, 0),
            x -> x.parts(0, 0, 0, 0), x -> x.parts(8, 0, 0, 1), x -> x.show(8, 0), x -> x.show(0, 51),
            x -> x.disagree(0, 8, 0, 1, 0), x -> x.disagree(0, 1, 0, 1, 10), x -> x.mean(0, 0), x -> x.mean(256, 0),
            x -> x.mean(1, 3), x -> x.stands(0, 0, 1), x -> x.stands(1, 0, 0),
        };
    }

    private static Call[] ofFullRules() {
        return new Call[] {
            x -> x.fault(0), x -> x.fault(1), x -> x.fault(3), x -> x.fault(8), x -> x.rule(0), x -> x.rule(1), x -> x.rule(3),
            x -> x.rule(4), x -> x.rule(5), x -> x.rule(8), x -> x.right(12), x -> x.right(-1), x -> x.standard(12),
            x -> x.worth(12), x -> x.steady(0), x -> x.steady(4096), x -> x.aged(0), x -> x.aged(101), x -> x.bill(0, 0, 1),
            x -> x.bill(4, 0, 1), x -> x.bill(0, 0, 1000), x -> x.paid(20), x -> x.paid(-1), x -> x.owed(4), x -> x.owed(-1),
        };
    }

    private static Call[] ofFullShelves() {
        return new Call[] {
            x -> x.gain(128, 1000, 0, 0, false), x -> x.gain(0, 0, 0, 0, true), x -> x.best(0, 0, 0, 0),
            x -> x.best(1000, 0, 0, 1), x -> x.best(1000, 0, 1, 1), x -> x.count(6), x -> x.count(-1), x -> x.keep(1, 1, 12),
            x -> x.keep(2, 2, 0), x -> x.keep(8, 0, 0), x -> x.keep(-1, 1, 0), x -> x.row(1, 0, 101), x -> x.row(2, 0, -1),
            x -> x.row(3, 3, 1), x -> x.row(8, 0, 1), x -> x.put(0, 0, 1), x -> x.put(1, 0, 1), x -> x.put(3, 4, 1),
            x -> x.put(3, -1, 1), x -> x.put(8, 0, 1), x -> elementOr(x, 8, 0, -1), x -> elementOr(x, 1, 0, -1),
            x -> elementOr(x, 3, 4, -1), x -> x.copy(3, 0, 3, 1, 4), x -> x.copy(3, 0, 4, 0, 1), x -> x.copy(2, 0, 5, 0, 3),
            x -> x.copy(5, 0, 2, 2, 2), x -> x.copy(2, 0, 5, 0, -1), x -> x.copy(1, 0, 2, 0, 1), x -> x.copy(2, 0, 0, 0, 1),
            x -> x.copy(2, 0, 8, 0, 1), x -> x.gives(0), x -> x.gives(3), x -> x.gives(8), x -> x.toss(0), x -> x.toss(3),
            x -> x.toss(6), x -> x.toss(8),
        };
    }

    // ---- nor does a question

    private static void questionsChangeNothing() {
        Call[] ofLights = {
            x -> x.of(4, 5), x -> x.seen(4, 1, 9), x -> x.alike(0, 1, 1, 9), x -> x.told(29, 3), x -> x.out(0, false),
            x -> x.out(3, true), x -> x.chain(0, 2, 1), x -> x.span(0, 2, 2, 0), x -> x.laws(1, 50, 3), x -> x.parts(6, 50, 0, 1),
            x -> x.show(1, 50), x -> x.disagree(0, 1, 0, 1, 9), x -> x.mean(3, 2), x -> x.stands(255, 0, 1),
            x -> x.hear(2), x -> x.hear(3), x -> x.damp(8), x -> x.eye(1, 2, 5), x -> x.setting(0, 9),
        };
        Call[] ofRest = {
            x -> x.fault(2), x -> x.fault(5), x -> x.rule(2), x -> x.right(4), x -> x.standard(3), x -> x.worth(1),
            x -> x.steady(4095), x -> x.aged(1), x -> x.paid(0), x -> x.owed(3), x -> x.gain(3, 1000, 5, 7, false),
            x -> x.gain(3, 1000, 5, 7, true), x -> x.best(1000, 5, 7, 0), x -> x.best(1000, 5, 0, 1), x -> x.narrows(),
            x -> x.count(5), x -> x.gives(1), x -> x.toss(1), x -> elementOr(x, 3, 0, -1), x -> x.copy(3, 0, 3, 0, 4),
            x -> x.copy(3, 4, 3, 4, 0), x -> x.keep(1, 1, 3), x -> x.keep(0, 0, 0), x -> x.put(3, 0, 1),
        };
        changeNothing("asked of lights, eyes", RefusalsTest::full, false, ofLights);
        changeNothing("asked of the rest", RefusalsTest::full, false, ofRest);
    }
}
