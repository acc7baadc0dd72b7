/** The boundaries that the document names for inspectors, what to match, the image: Terms 4, promises 32 to 37. */
public final class BoundsOfInspectorsTest {
    private static final int MIN = Integer.MIN_VALUE;
    private static final int MAX = Integer.MAX_VALUE;
    private static final int WRONG = -1000000001;
    /** GOOD 60, BAD 0: 60 is saved on an ill day. */
    private static final int SAVES_60 = 60000;
    /** In how many ways n of 7 days are chosen, and in how many of them a day is among them. */
    private static final int[] WAYS = {1, 7, 21, 35, 35, 21, 7, 1};
    private static final int[] FOUND = {0, 1, 6, 15, 20, 15, 6, 1};

    private BoundsOfInspectorsTest() {
    }

    public static void main(String[] args) {
        termsOfInspectors();
        termsOfTheRest();
        promisesOfInspectors();
        promisesOfTheRest();
        Document.finish(32, 37);
    }

    private static void termsOfInspectors() {
        String part = "Terms 4";
        Document.says(part, "or ill (cost BAD, below GOOD)", BoundsOfInspectorsTest::badBelowGood);
        Document.says(part, "on each day of a week (bits 0 .. 6: well)", BoundsOfInspectorsTest::eachDay);
        Document.says(part, "found ill on a day it pays FINE (0 .. 9999).", BoundsOfInspectorsTest::fines);
        Document.says(part, "GAIN of burning so: 7 times GOOD less what all days cost less FINES, in a week.",
                BoundsOfInspectorsTest::gainAtItsEnds);
        Document.says(part, "By LOT, n of 7 days: GAIN over all ways to choose n days, together.",
                BoundsOfInspectorsTest::lots);
        Document.says(part, "with the greatest GAIN by told DAYS;", BoundsOfInspectorsTest::greatestGain);
        Document.says(part, "of several the least bits.", BoundsOfInspectorsTest::leastBits);
        Document.says(part, "the least n (0 .. 7) of days by LOT with which no set has a greater GAIN",
                BoundsOfInspectorsTest::leastLots);
        Document.says(part, "than burning well on all; -4.", BoundsOfInspectorsTest::noneIsEnough);
    }

    private static void termsOfTheRest() {
        String part = "Terms 4";
        Document.says(part, "which two LIGHTS, a below b, if they were matched, would make the most pairs joined",
                BoundsOfInspectorsTest::mostPairs);
        Document.says(part, "(by any number of MATCHES that aren't OUT)", BoundsOfInspectorsTest::anyNumber);
        Document.says(part, "of several the first by a, then b; -4 if all are joined.", BoundsOfInspectorsTest::firstPair);
        Document.says(part, "-4 if all are joined.", BoundsOfInspectorsTest::allAreJoined);
        Document.says(part, "all that there is, but SHELVES", BoundsOfInspectorsTest::butShelves);
        Document.says(part, "(and THE IMAGE)", BoundsOfInspectorsTest::imageStays);
        Document.says(part, "RESTORED all is as it was then.", BoundsOfInspectorsTest::fullImage);
    }

    private static void promisesOfInspectors() {
        Document.says("Promise 32", "(lot false; 0 .. 127)", BoundsOfInspectorsTest::toldDays);
        Document.says("Promise 32", "over all ways by LOT of n (lot true; 0 .. 7)", BoundsOfInspectorsTest::lotsAtTheirEnds);
        Document.says("Promise 32", "1000 times GOOD, and BAD (0 .. 999 each, BAD below GOOD).",
                BoundsOfInspectorsTest::costs);
        Document.says("Promise 32", "-1000000001.", BoundsOfInspectorsTest::gainNotAsTold);
        Document.says("Promise 33", "BEST by told DAYS (what 0),", BoundsOfInspectorsTest::bestAtItsEnds);
        Document.says("Promise 33", "ENOUGH (1; days 0).", BoundsOfInspectorsTest::enoughWithoutDays);
        Document.says("Promise 33", "-1.", BoundsOfInspectorsTest::bestNotAsTold);
        Document.says("Promise 34", "NARROWS: 100 times a, and b;", BoundsOfInspectorsTest::lastPair);
        Document.says("Promise 34", "-4.", BoundsOfInspectorsTest::nothingToNarrow);
    }

    private static void promisesOfTheRest() {
        Document.says("Promise 35", "THE IMAGE is taken: how many LIGHTS.", BoundsOfInspectorsTest::imageAtItsEnds);
        Document.says("Promise 36", "THE IMAGE is RESTORED: how many LIGHTS.", BoundsOfInspectorsTest::restoreAtItsEnds);
        Document.says("Promise 36", "-3: there is none.", BoundsOfInspectorsTest::noImage);
        Document.says("Promise 37", "0 LIGHTS, 1 MATCHES, 2 those OUT, 3 BILLS, 4 all HOURS, 5 pairs of LIGHTS that are joined;",
                BoundsOfInspectorsTest::countFullAndEmpty);
        Document.says("Promise 37", "-1 for others.", BoundsOfInspectorsTest::countOthers);
    }

    private static CandleBar lamps(int many) {
        CandleBar x = new CandleBar();
        for (int k = 0; k < many; k++) {
            Check.due("light", x.light(0, 1, 0, 0), k);
        }
        return x;
    }

    private static void match(CandleBar x, int... lights) {
        for (int k = 0; k + 1 < lights.length; k++) {
            Check.isTrue("a match", x.match(lights[k], lights[k + 1], 0, 0) >= 0);
        }
    }

    // ---- inspectors

    private static void badBelowGood() {
        CandleBar x = new CandleBar();
        Check.due("bad as good", x.gain(0, 500500, 0, 0, false), WRONG);
        Check.due("bad above good", x.gain(0, 500501, 0, 0, false), WRONG);
        Check.due("bad 1 below good", x.gain(0, 500499, 0, 0, false), 7);
        Check.due("best: bad as good", x.best(500500, 0, 0, 0), -1);
        Check.due("best: bad above good", x.best(500501, 0, 0, 0), -1);
        Check.due("best: bad 1 below good", x.best(500499, 2, 127, 0), 127);
    }

    private static void eachDay() {
        CandleBar x = new CandleBar();
        for (int day = 0; day <= 6; day++) {
            Check.due("ill on a day alone", x.gain(127 - (1 << day), SAVES_60, 7, 0, false), 60);
            Check.due("found on it", x.gain(127 - (1 << day), SAVES_60, 7, 1 << day, false), 53);
            Check.due("not found on the others", x.gain(127 - (1 << day), SAVES_60, 7, 127 - (1 << day), false), 60);
            Check.due("well on it alone", x.gain(1 << day, SAVES_60, 7, 1 << day, false), 360);
        }
        Check.due("no day 7", x.gain(128, SAVES_60, 7, 0, false), WRONG);
        Check.due("nor to be told", x.gain(0, SAVES_60, 7, 128, false), WRONG);
    }

    private static void fines() {
        CandleBar x = new CandleBar();
        Check.due("-1", x.gain(0, SAVES_60, -1, 1, false), WRONG);
        Check.due("0", x.gain(0, SAVES_60, 0, 1, false), 420);
        Check.due("9999", x.gain(0, SAVES_60, 9999, 1, false), 420 - 9999);
        Check.due("10000", x.gain(0, SAVES_60, 10000, 1, false), WRONG);
        Check.due("well on all pays none", x.gain(127, SAVES_60, 9999, 127, false), 0);
    }

    private static void gainAtItsEnds() {
        CandleBar x = new CandleBar();
        Check.due("the greatest", x.gain(0, 999000, 0, 127, false), 6993);
        Check.due("the least", x.gain(0, 1000, 9999, 127, false), 7 - 69993);
        Check.due("just nothing", x.gain(0, SAVES_60, 60, 127, false), 0);
        Check.due("well on all", x.gain(127, 999998, 0, 0, false), 0);
    }

    private static void lots() {
        CandleBar x = new CandleBar();
        for (int n = 0; n <= 7; n++) {
            for (int ill = 0; ill <= 7; ill++) {
                int well = 127 & -1 << ill;
                int want = ill * (WAYS[n] * 60 - FOUND[n] * 7);
                Check.due("ill on " + ill + " days, " + n + " by lot", x.gain(well, SAVES_60, 7, n, true), want);
            }
        }
    }

    private static void greatestGain() {
        CandleBar x = new CandleBar();
        for (int day = 0; day <= 6; day++) {
            Check.due("well where it is told", x.best(SAVES_60, 61, 1 << day, 0), 1 << day);
            Check.due("well where it is told", x.best(SAVES_60, 61, 127 - (1 << day), 0), 127 - (1 << day));
        }
        Check.due("all are told", x.best(SAVES_60, 9999, 127, 0), 127);
        Check.due("none is told", x.best(SAVES_60, 9999, 0, 0), 0);
        Check.due("the least is saved", x.best(1000, 2, 127, 0), 127);
    }

    private static void leastBits() {
        CandleBar x = new CandleBar();
        Check.due("what is saved is as the fine", x.best(SAVES_60, 60, 127, 0), 0);
        Check.due("more is saved than the fine", x.best(SAVES_60, 59, 127, 0), 0);
        Check.due("less is saved than the fine", x.best(SAVES_60, 61, 127, 0), 127);
        Check.due("no fine", x.best(SAVES_60, 0, 127, 0), 0);
        Check.due("1 as 1", x.best(1000, 1, 85, 0), 0);
    }

    private static void leastLots() {
        CandleBar x = new CandleBar();
        int[] just = {0, 420, 210, 140, 105, 84, 70, 60};
        for (int n = 1; n <= 7; n++) {
            Check.due("just enough: " + n, x.best(SAVES_60, just[n], 0, 1), n);
            Check.due("just not enough: " + n, x.best(SAVES_60, just[n] - 1, 0, 1), n == 7 ? -4 : n + 1);
            Check.due("then no day ill gains", x.gain(0, SAVES_60, just[n], n, true), 0);
        }
        Check.due("the greatest fine", x.best(SAVES_60, 9999, 0, 1), 1);
        Check.due("6993 by 9999", x.best(999000, 9999, 0, 1), 1);
        Check.due("6993 by 6992", x.best(999000, 6992, 0, 1), 2);
        Check.due("7 by 7", x.best(999998, 7, 0, 1), 1);
        Check.due("7 by 1", x.best(999998, 1, 0, 1), 7);
    }

    private static void noneIsEnough() {
        CandleBar x = new CandleBar();
        Check.due("no fine", x.best(SAVES_60, 0, 0, 1), -4);
        Check.due("a fine below what is saved", x.best(SAVES_60, 59, 0, 1), -4);
        Check.due("the least is saved, no fine", x.best(999998, 0, 0, 1), -4);
        Check.due("the most is saved", x.best(999000, 998, 0, 1), -4);
        Check.due("just enough", x.best(999000, 999, 0, 1), 7);
    }

    // ---- what to match

    private static void mostPairs() {
        CandleBar x = lamps(12);
        match(x, 1, 2);
        Check.due("two and one: 0 and 1", x.narrows(), 1);
        match(x, 5, 6);
        Check.due("two and two", x.narrows(), 105);
        match(x, 9, 10, 11);
        Check.due("two and three", x.narrows(), 109);
        match(x, 11, 9);
        Check.due("one more within three does not matter", x.narrows(), 109);
        match(x, 6, 7, 8);
        Check.due("four and three", x.narrows(), 509);
        match(x, 0, 3, 4);
        Check.due("three, four and three: of two the first", x.narrows(), 5);
    }

    private static void anyNumber() {
        CandleBar x = lamps(12);
        for (int k = 0; k < 10; k++) {
            match(x, k, k + 1);
        }
        Check.due("eleven in one line, and one", x.narrows(), 11);
        Check.due("pairs", x.count(5), 55);
        x.out(4, true);
        Check.due("five and six", x.narrows(), 5);
        Check.due("pairs", x.count(5), 10 + 15);
        x.out(4, false);
        x.out(9, true);
        Check.due("ten, and two alone", x.narrows(), 10);
        for (int k = 0; k < 10; k++) {
            x.out(k, true);
        }
        Check.due("all are out", x.narrows(), 1);
        Check.due("no pairs", x.count(5), 0);
    }

    private static void firstPair() {
        CandleBar x = lamps(4);
        Check.due("nothing is joined", x.narrows(), 1);
        match(x, 0, 1);
        Check.due("0 or 1, with 2 or 3", x.narrows(), 2);
        match(x, 3, 2);
        Check.due("two pairs", x.narrows(), 2);
        x = lamps(4);
        match(x, 3, 1);
        Check.due("0 with 1 or 3, 1 or 3 with 2", x.narrows(), 1);
    }

    private static void allAreJoined() {
        CandleBar x = lamps(12);
        for (int k = 0; k < 10; k++) {
            match(x, k, k + 1);
        }
        match(x, 0, 11);
        Check.due("all twelve, in one line", x.narrows(), -4);
        Check.due("pairs", x.count(5), 66);
        x.out(10, true);
        Check.due("but for the last", x.narrows(), 11);
        x.out(10, false);
        x.light(0, 1, 0, 0);
        Check.due("no thirteenth came", x.narrows(), -4);
        x = lamps(2);
        match(x, 1, 0);
        Check.due("two", x.narrows(), -4);
        x.light(0, 1, 0, 0);
        Check.due("a third", x.narrows(), 2);
    }

    // ---- THE IMAGE

    private static void butShelves() {
        CandleBar x = lamps(1);
        x.keep(0, 1, 0);
        Check.fill(x, 1, Check.INTS, 5, 6);
        Check.fill(x, 2, Check.BYTES, 7);
        x.image();
        x.light(3, 50, 0, 10);
        x.keep(0, 1, 1);
        x.put(1, 1, 60);
        x.keep(2, 0, 0);
        x.row(7, Check.SHORTS, 2);
        Check.due("restored", x.restore(), 1);
        Check.due("a light that is no more stays on its shelf", x.gives(0), 55);
        Check.due("and its failure", x.toss(0), 210);
        Check.dueElement(x, 1, 1, "60");
        Check.due("gone stays gone", x.gives(2), -11);
        Check.dueElement(x, 7, 1, "0");
    }

    private static void imageStays() {
        CandleBar x = lamps(1);
        x.image();
        for (int k = 0; k < 3; k++) {
            x.light(0, 1, 0, 0);
            Check.due("restored as often as one likes", x.restore(), 1);
            Check.due("one light", x.count(0), 1);
        }
        x.light(0, 1, 0, 0);
        Check.due("another image", x.image(), 2);
        x.light(0, 1, 0, 0);
        Check.due("it took the first one's place", x.restore(), 2);
    }

    private static void fullImage() {
        CandleBar x = lamps(12);
        x.standard(11);
        for (int k = 0; k <= 29; k++) {
            x.match(k % 12, (k + 1) % 12, k % 8, k);
        }
        for (int k = 0; k <= 19; k++) {
            x.bill(k % 4, k % 12, 1 + k);
        }
        x.burn(11, 999);
        x.setting(0, 5);
        x.out(29, true);
        for (int eye = 0; eye <= 7; eye++) {
            x.eye(eye, 0, 11 + eye);
            x.eye(eye, 1, 22 + eye);
            x.eye(eye, 2, 3 + eye);
        }
        Check.due("full", x.image(), 12);
        x.burn(11, 1);
        x.burn(0, 1);
        x.setting(11, 200);
        x.setting(0, 200);
        x.out(29, false);
        x.out(0, true);
        for (int eye = 0; eye <= 7; eye++) {
            x.eye(eye, 0, 100);
            x.eye(eye, 1, 100);
            x.eye(eye, 2, 0);
        }
        x.standard(0);
        x.damp(50);
        Check.write(x, 0, "0-7");
        x.rule(0);
        Check.due("restored", x.restore(), 12);
        int[] want = {12, 30, 1, 20, 999, 66};
        for (int what = 0; what <= 5; what++) {
            Check.due("count(" + what + ")", x.count(what), want[what]);
        }
        Check.due("the first light's setting", x.of(0, 3), 5);
        Check.due("the last light's setting", x.of(11, 3), 0);
        Check.due("the last match is out", x.told(29, 5), 1);
        Check.due("the first is not", x.told(0, 5), 0);
        Check.due("the last bill", x.paid(19), 20);
        for (int eye = 0; eye <= 7; eye++) {
            Check.due("yellow", x.eye(eye, 0, 1), 11 + eye);
            Check.due("blue", x.eye(eye, 1, 1), 22 + eye);
            Check.due("lean", x.eye(eye, 2, 1), 3 + eye);
        }
        Check.due("the standard", x.standard(0), 11);
        Check.due("the damp", x.damp(0), 0);
        Check.due("the rule", x.right(0), 1);
    }

    // ---- promises 32 to 34

    private static void toldDays() {
        CandleBar x = new CandleBar();
        Check.due("-1", x.gain(0, SAVES_60, 7, -1, false), WRONG);
        Check.due("0", x.gain(0, SAVES_60, 7, 0, false), 420);
        Check.due("8 is the day 3", x.gain(127 - 8, SAVES_60, 7, 8, false), 53);
        Check.due("127", x.gain(0, SAVES_60, 7, 127, false), 420 - 49);
        Check.due("128", x.gain(0, SAVES_60, 7, 128, false), WRONG);
    }

    private static void lotsAtTheirEnds() {
        CandleBar x = new CandleBar();
        Check.due("-1", x.gain(0, SAVES_60, 7, -1, true), WRONG);
        Check.due("0: one way, never found", x.gain(0, SAVES_60, 7, 0, true), 420);
        Check.due("7: one way, always found", x.gain(0, SAVES_60, 7, 7, true), 420 - 49);
        Check.due("8", x.gain(0, SAVES_60, 7, 8, true), WRONG);
        Check.due("the greatest", x.gain(0, 999000, 0, 4, true), 35 * 6993);
        Check.due("the least", x.gain(0, 1000, 9999, 4, true), 35 * 7 - 20 * 69993);
    }

    private static void costs() {
        CandleBar x = new CandleBar();
        Check.due("good 0", x.gain(0, 0, 0, 0, false), WRONG);
        Check.due("good 0, bad 999", x.gain(0, 999, 0, 0, false), WRONG);
        Check.due("good 1, bad 0", x.gain(0, 1000, 0, 0, false), 7);
        Check.due("good 1, bad 1", x.gain(0, 1001, 0, 0, false), WRONG);
        Check.due("good 999, bad 0", x.gain(0, 999000, 0, 0, false), 6993);
        Check.due("good 999, bad 998", x.gain(0, 999998, 0, 0, false), 7);
        Check.due("good 999, bad 999", x.gain(0, 999999, 0, 0, false), WRONG);
        Check.due("good 1000", x.gain(0, 1000000, 0, 0, false), WRONG);
        Check.due("good -1", x.gain(0, -1000, 0, 0, false), WRONG);
        Check.due("bad -1", x.gain(0, -1, 0, 0, false), WRONG);
    }

    private static void gainNotAsTold() {
        CandleBar x = new CandleBar();
        int[][] wrong = {
            {-1, 10003, 20, 1}, {128, 10003, 20, 1}, {MIN, 10003, 20, 1}, {MAX, 10003, 20, 1}, {1, MIN, 20, 1},
            {1, MAX, 20, 1}, {1, 1000000, 20, 1}, {1, -5, 20, 1}, {1, 10010, 20, 1}, {1, 10003, -1, 1}, {1, 10003, 10000, 1},
            {1, 10003, MIN, 1}, {1, 10003, MAX, 1}, {1, 10003, 20, MIN}, {1, 10003, 20, MAX}, {1, 10003, 20, -1},
        };
        for (int[] w : wrong) {
            String call = "gain(" + w[0] + ", " + w[1] + ", " + w[2] + ", " + w[3] + ", ";
            Check.due(call + "false)", x.gain(w[0], w[1], w[2], w[3], false), WRONG);
            Check.due(call + "true)", x.gain(w[0], w[1], w[2], w[3], true), WRONG);
        }
    }

    private static void bestAtItsEnds() {
        CandleBar x = new CandleBar();
        Check.due("no days", x.best(SAVES_60, 9999, 0, 0), 0);
        Check.due("all days", x.best(SAVES_60, 9999, 127, 0), 127);
        Check.due("days -1", x.best(SAVES_60, 9999, -1, 0), -1);
        Check.due("days 128", x.best(SAVES_60, 9999, 128, 0), -1);
        Check.due("the greatest costs", x.best(999998, 9999, 127, 0), 127);
        Check.due("the least costs", x.best(1000, 0, 127, 0), 0);
        Check.due("999 saved, fine 999", x.best(999000, 999, 127, 0), 0);
        Check.due("999 saved, fine 1000", x.best(999000, 1000, 127, 0), 127);
    }

    private static void enoughWithoutDays() {
        CandleBar x = new CandleBar();
        Check.due("days 0", x.best(SAVES_60, 420, 0, 1), 1);
        Check.due("days 1", x.best(SAVES_60, 420, 1, 1), -1);
        Check.due("days 127", x.best(SAVES_60, 420, 127, 1), -1);
        Check.due("days -1", x.best(SAVES_60, 420, -1, 1), -1);
        Check.due("not as told is ahead of none", x.best(SAVES_60, 0, 1, 1), -1);
    }

    private static void bestNotAsTold() {
        CandleBar x = new CandleBar();
        int[][] wrong = {
            {10010, 5, 0, 0}, {10011, 5, 0, 0}, {0, 5, 0, 0}, {999999, 5, 0, 0}, {1000000, 5, 0, 0}, {-1, 5, 0, 0},
            {MIN, 5, 0, 0}, {MAX, 5, 0, 0}, {10003, -1, 0, 0}, {10003, 10000, 0, 0}, {10003, MIN, 0, 1}, {10003, MAX, 0, 1},
            {10003, -1, 0, 1}, {10003, 10000, 0, 1}, {10003, 5, 128, 0}, {10003, 5, MIN, 0}, {10003, 5, MAX, 0},
            {10003, 5, 0, -1}, {10003, 5, 0, 2}, {10003, 5, 0, MIN}, {10003, 5, 0, MAX}, {10010, 5, 0, 1},
        };
        for (int[] w : wrong) {
            String call = "best(" + w[0] + ", " + w[1] + ", " + w[2] + ", " + w[3] + ")";
            Check.due(call, x.best(w[0], w[1], w[2], w[3]), -1);
        }
    }

    private static void lastPair() {
        CandleBar x = lamps(12);
        match(x, 0, 1);
        match(x, 2, 11);
        for (int k = 2; k < 10; k++) {
            match(x, k, k + 1);
        }
        Check.due("two and ten", x.narrows(), 2);
        x = lamps(12);
        for (int k = 1; k < 10; k++) {
            match(x, 0, k);
            match(x, k, 0);
        }
        Check.due("ten around 0, 10 alone", x.narrows(), 10);
        x.match(10, 0, 0, 0);
        Check.due("eleven, 11 alone", x.narrows(), 11);
        x = lamps(11);
        x.light(0, 1, 0, 0);
        match(x, 10, 9, 8, 7);
        match(x, 11, 6, 5, 4);
        Check.due("four and four, none below them", x.narrows(), 407);
    }

    private static void nothingToNarrow() {
        CandleBar x = new CandleBar();
        Check.due("no lights", x.narrows(), -4);
        x.light(0, 1, 0, 0);
        Check.due("one light", x.narrows(), -4);
        x.light(0, 1, 0, 0);
        Check.due("two lights", x.narrows(), 1);
        match(x, 0, 1);
        Check.due("joined", x.narrows(), -4);
        x.out(0, true);
        Check.due("out", x.narrows(), 1);
    }

    // ---- promises 35 to 37

    private static void imageAtItsEnds() {
        CandleBar x = new CandleBar();
        for (int k = 0; k <= 11; k++) {
            Check.due("of " + k, x.image(), k);
            Check.due("again", x.image(), k);
            x.light(0, 1, 0, 0);
        }
        Check.due("of twelve", x.image(), 12);
    }

    private static void restoreAtItsEnds() {
        CandleBar x = new CandleBar();
        x.image();
        for (int k = 0; k <= 11; k++) {
            x.light(7, 9, 8, 7);
            x.burn(k, 999);
        }
        x.match(11, 0, 0, 0);
        x.out(0, true);
        x.standard(11);
        x.bill(0, 11, 5);
        Check.due("nothing again", x.restore(), 0);
        for (int what = 0; what <= 5; what++) {
            Check.due("count(" + what + ")", x.count(what), 0);
        }
        Check.due("there is room again", x.light(0, 1, 2, 3), 0);
        Check.due("it has not burnt", x.of(0, 4), 0);
        x.light(0, 1, 0, 0);
        Check.due("the first match again", x.match(0, 1, 0, 0), 0);
        Check.due("it is not out", x.told(0, 5), 0);
        Check.due("no standard again", x.bill(0, 0, 1), -3);
    }

    private static void noImage() {
        CandleBar x = lamps(1);
        Check.due("none", x.restore(), -3);
        Check.due("refused, nothing changed", x.count(0), 1);
        x.image();
        Check.due("one", x.restore(), 1);
        Check.due("another object's is its own", new CandleBar().restore(), -3);
    }

    private static void countFullAndEmpty() {
        CandleBar x = new CandleBar();
        for (int what = 0; what <= 5; what++) {
            Check.due("of a new object", x.count(what), 0);
        }
        x = lamps(12);
        for (int k = 0; k <= 11; k++) {
            x.burn(k, 999);
        }
        for (int k = 0; k <= 29; k++) {
            x.match(k % 11, k % 11 + 1, 0, 0);
        }
        x.standard(0);
        for (int k = 0; k <= 19; k++) {
            x.bill(0, 0, 1);
        }
        int[] want = {12, 30, 0, 20, 12 * 999, 66};
        for (int what = 0; what <= 5; what++) {
            Check.due("of a full one, " + what, x.count(what), want[what]);
        }
        for (int k = 0; k <= 29; k++) {
            x.out(k, true);
        }
        Check.due("all are out", x.count(2), 30);
        Check.due("there are as many", x.count(1), 30);
        Check.due("no pairs", x.count(5), 0);
    }

    private static void countOthers() {
        CandleBar x = lamps(3);
        for (int what : new int[] {-1, 6, MIN, MAX}) {
            Check.due("count(" + what + ")", x.count(what), -1);
        }
    }
}
