/** The boundaries that the document names for SHELVES: Terms 1, promises 38 to 44. */
public final class BoundsOfShelvesTest {
    private static final int MIN = Integer.MIN_VALUE;
    private static final int MAX = Integer.MAX_VALUE;
    private static final String NO_SHELF = "IllegalArgumentException";
    private static final String CANNOT = "IllegalStateException";

    private BoundsOfShelvesTest() {
    }

    public static void main(String[] args) {
        terms();
        promisesOfKeeping();
        promisesOfRows();
        promisesOfLights();
        Document.finish(38, 44);
    }

    private static void terms() {
        String part = "Terms 1";
        Document.says(part, "SHELVES 0 .. 7 each hold nothing (at first), a LIGHT (as it was then), a ROW.",
                BoundsOfShelvesTest::shelves);
        Document.says(part, "(as it was then)", BoundsOfShelvesTest::asItWasThen);
        Document.says(part, "A ROW has a SORT (0 bytes, 1 shorts, 2 ints)", BoundsOfShelvesTest::sorts);
        Document.says(part, "and 0 .. 100 elements, 0 at first;", BoundsOfShelvesTest::sizes);
        Document.says(part, "what is put in keeps its lowest bits.", BoundsOfShelvesTest::lowestBits);
        Document.says(part, "-11 nothing is held where something is wanted;", BoundsOfShelvesTest::nothingHeld);
        Document.says(part, "-12 it is of another kind;", BoundsOfShelvesTest::anotherKind);
        Document.says(part, "-13 a place that isn't there;", BoundsOfShelvesTest::noPlace);
        Document.says(part, "-14 a size below 0;", BoundsOfShelvesTest::sizeBelow0);
        Document.says(part, "-15 a FAILURE that is none.", BoundsOfShelvesTest::noFailure);
    }

    private static void promisesOfKeeping() {
        Document.says("Promise 38", "what = 0 nothing (the others do not matter);", BoundsOfShelvesTest::keepNothing);
        Document.says("Promise 38", "1 LIGHT k: 0.", BoundsOfShelvesTest::keepEachLight);
        Document.says("Promise 38", "-1.", BoundsOfShelvesTest::keepNotAsTold);
        Document.says("Promise 39", "SHELF d gets a ROW of a SORT: 0.", BoundsOfShelvesTest::rowOverAll);
        Document.says("Promise 39", "-1 (n above 100);", BoundsOfShelvesTest::rowNotAsTold);
        Document.says("Promise 39", "-14.", BoundsOfShelvesTest::rowBelow0);
    }

    private static void promisesOfRows() {
        Document.says("Promise 40", "Element i of the ROW becomes v: 0.", BoundsOfShelvesTest::putAtTheEnds);
        Document.says("Promise 40", "-1,", BoundsOfShelvesTest::putNoShelf);
        Document.says("Promise 40", "-11,", BoundsOfShelvesTest::putNothing);
        Document.says("Promise 40", "-12,", BoundsOfShelvesTest::putNoRow);
        Document.says("Promise 40", "-13.", BoundsOfShelvesTest::putNoPlace);
        Document.says("Promise 41", "Element i of the ROW.", BoundsOfShelvesTest::elementAtTheEnds);
        Document.says("Promise 41", "IllegalArgumentException: no such SHELF;", BoundsOfShelvesTest::elementNoShelf);
        Document.says("Promise 41", "IllegalStateException: no ROW,", BoundsOfShelvesTest::elementNoRow);
        Document.says("Promise 41", "no such place.", BoundsOfShelvesTest::elementNoPlace);
        Document.says("Promise 42", "n elements of the ROW in SHELF d from i on come to that in SHELF e from j on: n.",
                BoundsOfShelvesTest::copyAtTheEnds);
        Document.says("Promise 42", "come to that in SHELF e", BoundsOfShelvesTest::copyWithinOne);
        Document.says("Promise 42", "-1,", BoundsOfShelvesTest::copyNoShelf);
        Document.says("Promise 42", "-11 (either),", BoundsOfShelvesTest::copyNothing);
        Document.says("Promise 42", "-12 (no ROWS of one SORT),", BoundsOfShelvesTest::copyOfTwoSorts);
        Document.says("Promise 42", "-13 (n below 0, too).", BoundsOfShelvesTest::copyNoPlace);
    }

    private static void promisesOfLights() {
        Document.says("Promise 43", "What the LIGHT on SHELF d GIVES (DAMP as it is now).", BoundsOfShelvesTest::givesInDamp);
        Document.says("Promise 43", "-1,", BoundsOfShelvesTest::givesNoShelf);
        Document.says("Promise 43", "-11,", BoundsOfShelvesTest::givesNothing);
        Document.says("Promise 43", "-12 (a ROW).", BoundsOfShelvesTest::givesRow);
        Document.says("Promise 44", "The FAILURE of the LIGHT on SHELF d is thrown, and caught: its number (the LIGHT's);",
                BoundsOfShelvesTest::tossEachNumber);
        Document.says("Promise 44", "of KEPT ones 100 more;", BoundsOfShelvesTest::tossKept);
        Document.says("Promise 44", "of GAS ones 200 and SETTING in place of that.", BoundsOfShelvesTest::tossGas);
        Document.says("Promise 44", "-1,", BoundsOfShelvesTest::tossNoShelf);
        Document.says("Promise 44", "-11,", BoundsOfShelvesTest::tossNothing);
        Document.says("Promise 44", "-12 (a ROW);", BoundsOfShelvesTest::tossRow);
        Document.says("Promise 44", "-15: METALS, and any with SETTING 0, have none.", BoundsOfShelvesTest::tossOfNone);
    }

    /** SHELF 0 holds nothing, 1 a LIGHT, 2 bytes, 3 shorts, 4 ints: three elements each, 1, 2, 3. */
    private static CandleBar five() {
        CandleBar x = Check.lamps(5);
        x.keep(1, 1, 0);
        for (int sort = 0; sort <= 2; sort++) {
            Check.fill(x, 2 + sort, sort, 1, 2, 3);
        }
        return x;
    }

    private static void dueRow(CandleBar x, int d, int... want) {
        for (int i = 0; i < want.length; i++) {
            Check.dueElement(x, d, i, Integer.toString(want[i]));
        }
        Check.dueElement(x, d, want.length, CANNOT);
    }

    // ---- SHELVES, ROWS

    private static void shelves() {
        CandleBar x = Check.lamps(5);
        for (int d = 0; d <= 7; d++) {
            Check.due("nothing at first", x.gives(d), -11);
            Check.due("a light", x.keep(d, 1, 0), 0);
            Check.due("it is held", x.gives(d), 5);
            Check.due("a row", x.row(d, d % 3, d), 0);
            Check.due("it is held", x.put(d, 0, 9), d == 0 ? -13 : 0);
        }
        for (int d = 1; d <= 7; d++) {
            Check.dueElement(x, d, 0, "9");
        }
        Check.due("no shelf 8", x.keep(8, 1, 0), -1);
        Check.due("no shelf -1", x.keep(-1, 1, 0), -1);
    }

    private static void asItWasThen() {
        CandleBar x = new CandleBar();
        x.light(4, 100, 50, 100);
        x.light(3, 100, 50, 7);
        x.keep(0, 1, 0);
        x.keep(1, 1, 1);
        x.burn(0, 500);
        x.setting(0, 0);
        x.setting(1, 9);
        Check.due("its hours", x.gives(0), 100);
        Check.due("its setting", x.toss(0), 0);
        Check.due("its failure", x.toss(1), 207);
        x.keep(2, 1, 1);
        Check.due("as it is now", x.toss(2), 209);
        Check.due("the first as then", x.toss(1), 207);
    }

    private static void sorts() {
        CandleBar x = new CandleBar();
        Check.due("-1", x.row(0, -1, 1), -1);
        for (int sort = 0; sort <= 2; sort++) {
            Check.due("sort " + sort, x.row(sort, sort, 1), 0);
            x.put(sort, 0, 98304);
        }
        Check.due("3", x.row(3, 3, 1), -1);
        dueRow(x, 0, 0);
        dueRow(x, 1, -32768);
        dueRow(x, 2, 98304);
    }

    private static void sizes() {
        for (int sort = 0; sort <= 2; sort++) {
            CandleBar x = new CandleBar();
            Check.due("0", x.row(0, sort, 0), 0);
            dueRow(x, 0);
            Check.due("1", x.row(0, sort, 1), 0);
            dueRow(x, 0, 0);
            Check.due("100", x.row(0, sort, 100), 0);
            dueRow(x, 0, new int[100]);
            for (int i = 0; i < 100; i++) {
                x.put(0, i, -1 - i);
            }
            Check.due("100 again", x.row(0, sort, 100), 0);
            dueRow(x, 0, new int[100]);
            Check.due("101", x.row(0, sort, 101), -1);
        }
    }

    private static void lowestBits() {
        int[] in = {
            0, -1, 127, 128, -128, -129, 255, 256, 257, 32767, 32768, -32768, -32769, 65535, 65536, 65537, MAX, MIN, MIN + 1,
        };
        int[] bytes = {0, -1, 127, -128, -128, 127, -1, 0, 1, -1, 0, 0, -1, -1, 0, 1, -1, 0, 1};
        int[] shorts = {
            0, -1, 127, 128, -128, -129, 255, 256, 257, 32767, -32768, -32768, 32767, -1, 0, 1, -1, 0, 1,
        };
        CandleBar x = new CandleBar();
        Check.fill(x, 0, Check.BYTES, in);
        Check.fill(x, 1, Check.SHORTS, in);
        Check.fill(x, 2, Check.INTS, in);
        dueRow(x, 0, bytes);
        dueRow(x, 1, shorts);
        dueRow(x, 2, in);
    }

    // ---- their REFUSALS

    private static void nothingHeld() {
        CandleBar x = five();
        int[] got = {
            x.hear(0), x.fault(0), x.rule(0), x.put(0, 0, 0), x.copy(0, 0, 2, 0, 1), x.copy(2, 0, 0, 0, 1), x.gives(0), x.toss(0),
        };
        for (int k = 0; k < got.length; k++) {
            Check.due("nothing is held, call " + k, got[k], -11);
        }
    }

    private static void anotherKind() {
        CandleBar x = five();
        int[] got = {
            x.hear(1), x.fault(1), x.fault(3), x.fault(4), x.rule(1), x.rule(3), x.rule(4), x.put(1, 0, 0),
            x.copy(1, 0, 2, 0, 1), x.copy(2, 0, 1, 0, 1), x.copy(2, 0, 3, 0, 1), x.gives(2), x.gives(4), x.toss(2), x.toss(4),
        };
        for (int k = 0; k < got.length; k++) {
            Check.due("another kind, call " + k, got[k], -12);
        }
    }

    private static void noPlace() {
        CandleBar x = five();
        int[] got = {
            x.put(2, 3, 0), x.put(2, -1, 0), x.copy(2, 3, 2, 0, 1), x.copy(2, 0, 2, 3, 1), x.copy(2, -1, 2, 0, 1),
            x.copy(2, 0, 2, -1, 1), x.copy(2, 0, 2, 0, 4),
        };
        for (int k = 0; k < got.length; k++) {
            Check.due("no place, call " + k, got[k], -13);
        }
    }

    private static void sizeBelow0() {
        CandleBar x = five();
        Check.due("-1", x.row(2, 0, -1), -14);
        Check.due("the least", x.row(2, 0, MIN), -14);
        Check.due("0", x.row(2, 0, 0), 0);
    }

    private static void noFailure() {
        CandleBar x = new CandleBar();
        x.light(6, 1, 0, 1);
        x.light(0, 1, 0, 0);
        x.light(0, 1, 0, 1);
        for (int k = 0; k <= 2; k++) {
            x.keep(k, 1, k);
        }
        Check.due("a metal", x.toss(0), -15);
        Check.due("setting 0", x.toss(1), -15);
        Check.due("setting 1", x.toss(2), 2);
    }

    // ---- promises 38, 39

    private static void keepNothing() {
        CandleBar x = five();
        int[] any = {0, 1, -1, 12, MIN, MAX};
        for (int d = 0; d <= 5; d++) {
            Check.due("nothing", x.keep(d, 0, any[d]), 0);
            Check.due("it is gone", x.toss(d), -11);
        }
        Check.due("without lights", new CandleBar().keep(0, 0, 0), 0);
    }

    private static void keepEachLight() {
        CandleBar x = new CandleBar();
        for (int k = 0; k <= 11; k++) {
            x.light(0, 1 + k, 0, 1);
            Check.due("the first shelf", x.keep(0, 1, k), 0);
            Check.due("the last shelf", x.keep(7, 1, k), 0);
            Check.due("it is there", x.gives(0), 1 + k);
            Check.due("it is there", x.gives(7), 1 + k);
        }
    }

    private static void keepNotAsTold() {
        CandleBar x = Check.lamps(5, 6);
        x.keep(0, 1, 0);
        int[][] wrong = {
            {-1, 1, 0}, {8, 1, 0}, {MIN, 1, 0}, {MAX, 1, 0}, {-1, 0, 0}, {8, 0, 0}, {0, -1, 0}, {0, 2, 0}, {0, MIN, 0},
            {0, MAX, 0}, {0, 1, -1}, {0, 1, 2}, {0, 1, 12}, {0, 1, MIN}, {0, 1, MAX},
        };
        for (int[] w : wrong) {
            Check.due("keep(" + w[0] + ", " + w[1] + ", " + w[2] + ")", x.keep(w[0], w[1], w[2]), -1);
        }
        Check.due("it is held still", x.gives(0), 5);
        Check.due("without lights", new CandleBar().keep(0, 1, 0), -1);
    }

    private static void rowOverAll() {
        CandleBar x = five();
        for (int d = 0; d <= 4; d++) {
            Check.due("a row over what was there", x.row(d, Check.INTS, 2), 0);
            dueRow(x, d, 0, 0);
        }
        Check.due("the last shelf", x.row(7, Check.BYTES, 1), 0);
        dueRow(x, 7, 0);
        Check.due("a light over a row", x.keep(7, 1, 0), 0);
        Check.due("it gives", x.gives(7), 5);
        Check.due("a row over a light", x.row(7, Check.BYTES, 1), 0);
        dueRow(x, 7, 0);
    }

    private static void rowNotAsTold() {
        CandleBar x = five();
        int[][] wrong = {
            {2, 0, 101}, {2, 0, MAX}, {2, -1, 1}, {2, 3, 1}, {2, MIN, 1}, {2, MAX, 1}, {-1, 0, 1}, {8, 0, 1}, {MIN, 0, 1},
            {MAX, 0, 1}, {8, 0, -1}, {-1, 0, MIN}, {2, 3, -1}, {2, -1, MIN},
        };
        for (int[] w : wrong) {
            Check.due("row(" + w[0] + ", " + w[1] + ", " + w[2] + ")", x.row(w[0], w[1], w[2]), -1);
        }
        dueRow(x, 2, 1, 2, 3);
    }

    private static void rowBelow0() {
        CandleBar x = five();
        for (int n : new int[] {-1, -2, -100, MIN}) {
            Check.due("row(2, 0, " + n + ")", x.row(2, 0, n), -14);
            Check.due("row(0, 2, " + n + ")", x.row(0, 2, n), -14);
            Check.due("row(1, 1, " + n + ")", x.row(1, 1, n), -14);
        }
        dueRow(x, 2, 1, 2, 3);
        Check.due("nothing still", x.gives(0), -11);
        Check.due("a light still", x.gives(1), 5);
    }

    // ---- promises 40, 41

    private static void putAtTheEnds() {
        CandleBar x = new CandleBar();
        x.row(7, Check.INTS, 100);
        Check.due("the first", x.put(7, 0, MIN), 0);
        Check.due("the last", x.put(7, 99, MAX), 0);
        Check.dueElement(x, 7, 0, "-2147483648");
        Check.dueElement(x, 7, 1, "0");
        Check.dueElement(x, 7, 98, "0");
        Check.dueElement(x, 7, 99, "2147483647");
        Check.due("over it", x.put(7, 99, -1), 0);
        Check.dueElement(x, 7, 99, "-1");
    }

    private static void putNoShelf() {
        CandleBar x = five();
        for (int d : new int[] {-1, 8, MIN, MAX}) {
            Check.due("put(" + d + ", 0, 0)", x.put(d, 0, 0), -1);
            Check.due("put(" + d + ", -1, 0)", x.put(d, -1, 0), -1);
        }
    }

    private static void putNothing() {
        CandleBar x = five();
        Check.due("nothing at first", x.put(0, 0, 0), -11);
        Check.due("nothing is ahead of no place", x.put(7, -1, 0), -11);
        x.keep(2, 0, 0);
        Check.due("nothing any more", x.put(2, 0, 0), -11);
    }

    private static void putNoRow() {
        CandleBar x = five();
        Check.due("a light", x.put(1, 0, 0), -12);
        Check.due("another kind is ahead of no place", x.put(1, -1, 0), -12);
    }

    private static void putNoPlace() {
        CandleBar x = five();
        for (int d = 2; d <= 4; d++) {
            for (int i : new int[] {-1, 3, 100, MIN, MAX}) {
                Check.due("put(" + d + ", " + i + ", 9)", x.put(d, i, 9), -13);
            }
            dueRow(x, d, 1, 2, 3);
        }
        x.row(2, 0, 0);
        Check.due("an empty row", x.put(2, 0, 9), -13);
        x.row(2, 0, 100);
        Check.due("behind the last of a hundred", x.put(2, 100, 9), -13);
    }

    private static void elementAtTheEnds() {
        CandleBar x = new CandleBar();
        int[] row = new int[100];
        for (int i = 0; i < 100; i++) {
            row[i] = MAX - i;
        }
        Check.fill(x, 0, Check.INTS, row);
        dueRow(x, 0, row);
    }

    private static void elementNoShelf() {
        CandleBar x = five();
        for (int d : new int[] {-1, 8, MIN, MAX}) {
            Check.dueElement(x, d, 0, NO_SHELF);
            Check.dueElement(x, d, -1, NO_SHELF);
        }
    }

    private static void elementNoRow() {
        CandleBar x = five();
        Check.dueElement(x, 0, 0, CANNOT);
        Check.dueElement(x, 7, 0, CANNOT);
        Check.dueElement(x, 1, 0, CANNOT);
        x.keep(2, 0, 0);
        Check.dueElement(x, 2, 0, CANNOT);
        x.keep(3, 1, 0);
        Check.dueElement(x, 3, 0, CANNOT);
    }

    private static void elementNoPlace() {
        CandleBar x = five();
        for (int d = 2; d <= 4; d++) {
            for (int i : new int[] {-1, 3, 100, MIN, MAX}) {
                Check.dueElement(x, d, i, CANNOT);
            }
        }
        x.row(2, 0, 0);
        Check.dueElement(x, 2, 0, CANNOT);
    }

    // ---- promise 42

    private static void copyAtTheEnds() {
        for (int sort = 0; sort <= 2; sort++) {
            CandleBar x = new CandleBar();
            Check.fill(x, 0, sort, 1, 2, 3, 4);
            Check.fill(x, 7, sort, 5, 6);
            Check.due("the last two over both", x.copy(0, 2, 7, 0, 2), 2);
            dueRow(x, 7, 3, 4);
            Check.due("the first over the last", x.copy(0, 0, 7, 1, 1), 1);
            dueRow(x, 7, 3, 1);
            Check.due("both over the last two", x.copy(7, 0, 0, 2, 2), 2);
            dueRow(x, 0, 1, 2, 3, 1);
            Check.due("none", x.copy(0, 0, 7, 0, 0), 0);
            Check.due("none, behind the last ones", x.copy(0, 4, 7, 2, 0), 0);
            x.row(3, sort, 0);
            Check.due("none from an empty row", x.copy(3, 0, 0, 0, 0), 0);
            Check.due("none to an empty row", x.copy(0, 0, 3, 0, 0), 0);
            Check.due("one from an empty row", x.copy(3, 0, 0, 0, 1), -13);
            Check.due("one to an empty row", x.copy(0, 0, 3, 0, 1), -13);
            dueRow(x, 0, 1, 2, 3, 1);
            dueRow(x, 7, 3, 1);
            x.row(1, sort, 100);
            x.put(1, 0, 8);
            x.put(1, 99, 9);
            x.row(2, sort, 100);
            Check.due("a hundred", x.copy(1, 0, 2, 0, 100), 100);
            Check.dueElement(x, 2, 0, "8");
            Check.dueElement(x, 2, 99, "9");
            Check.due("a hundred and one", x.copy(1, 0, 2, 0, 101), -13);
        }
    }

    private static void copyWithinOne() {
        CandleBar x = new CandleBar();
        Check.fill(x, 0, Check.SHORTS, 1, 2, 3, 4, 5);
        Check.due("forth, over itself", x.copy(0, 0, 0, 1, 4), 4);
        dueRow(x, 0, 1, 1, 2, 3, 4);
        Check.due("back, over itself", x.copy(0, 1, 0, 0, 4), 4);
        dueRow(x, 0, 1, 2, 3, 4, 4);
        Check.due("onto itself", x.copy(0, 0, 0, 0, 5), 5);
        dueRow(x, 0, 1, 2, 3, 4, 4);
    }

    private static void copyNoShelf() {
        CandleBar x = five();
        for (int d : new int[] {-1, 8, MIN, MAX}) {
            Check.due("from " + d, x.copy(d, 0, 2, 0, 1), -1);
            Check.due("to " + d, x.copy(2, 0, d, 0, 1), -1);
            Check.due("from " + d + " is ahead of nothing", x.copy(d, 0, 0, 0, 1), -1);
            Check.due("to " + d + " is ahead of nothing", x.copy(0, 0, d, 0, 1), -1);
            Check.due("to " + d + " is ahead of another kind", x.copy(1, 0, d, 0, 1), -1);
            Check.due("to " + d + " is ahead of no place", x.copy(2, 0, d, 0, -1), -1);
        }
    }

    private static void copyNothing() {
        CandleBar x = five();
        Check.due("from nothing", x.copy(0, 0, 2, 0, 1), -11);
        Check.due("to nothing", x.copy(2, 0, 0, 0, 1), -11);
        Check.due("both", x.copy(0, 0, 7, 0, 1), -11);
        Check.due("from a light to nothing", x.copy(1, 0, 0, 0, 1), -11);
        Check.due("from nothing to a light", x.copy(0, 0, 1, 0, 1), -11);
        Check.due("nothing is ahead of no place", x.copy(2, 9, 0, 9, -1), -11);
    }

    private static void copyOfTwoSorts() {
        CandleBar x = five();
        for (int d = 1; d <= 4; d++) {
            for (int e = 1; e <= 4; e++) {
                int want = d == e && d > 1 ? 1 : -12;
                Check.due("copy from " + d + " to " + e, x.copy(d, 0, e, 0, 1), want);
                Check.due("no place from " + d + " to " + e, x.copy(d, 0, e, 0, -1), want == 1 ? -13 : -12);
                Check.due("none from " + d + " to " + e, x.copy(d, 0, e, 0, 0), want == 1 ? 0 : -12);
            }
        }
    }

    private static void copyNoPlace() {
        CandleBar x = new CandleBar();
        Check.fill(x, 0, Check.BYTES, 1, 2, 3);
        Check.fill(x, 1, Check.BYTES, 4, 5);
        int[][] wrong = {
            {0, 0, -1}, {0, 0, MIN}, {0, 0, 3}, {0, 0, 4}, {0, 0, MAX}, {-1, 0, 1}, {0, -1, 1}, {3, 0, 1}, {0, 2, 1}, {2, 0, 2},
            {0, 1, 2}, {4, 0, 0}, {0, 3, 0}, {-1, 0, 0}, {0, -1, 0}, {MIN, 0, 1}, {0, MIN, 1}, {MAX, 0, 1}, {0, MAX, 1},
            {MAX, 0, MAX}, {0, MAX, MAX}, {1, 1, MAX}, {MIN, MIN, MIN}, {-1, -1, -1}, {MAX, 0, 0}, {0, MAX, 0},
        };
        for (int[] w : wrong) {
            Check.due("copy(0, " + w[0] + ", 1, " + w[1] + ", " + w[2] + ")", x.copy(0, w[0], 1, w[1], w[2]), -13);
        }
        dueRow(x, 0, 1, 2, 3);
        dueRow(x, 1, 4, 5);
    }

    // ---- promises 43, 44

    private static void givesInDamp() {
        CandleBar x = new CandleBar();
        x.light(3, 100, 50, 50);
        x.light(5, 50, 50, 50);
        x.light(0, 100, 50, 50);
        for (int k = 0; k <= 2; k++) {
            x.keep(k, 1, k);
        }
        x.damp(50);
        int[] damp = {100, 1, 100};
        int[] dry = {150, 50, 100};
        for (int k = 0; k <= 2; k++) {
            Check.due("damp", x.gives(k), damp[k]);
        }
        x.damp(0);
        for (int k = 0; k <= 2; k++) {
            Check.due("dry", x.gives(k), dry[k]);
        }
        x.image();
        x.damp(9);
        Check.due("damp as it is now", x.gives(0), 141);
        x.restore();
        Check.due("and restored", x.gives(0), 150);
    }

    private static void givesNoShelf() {
        CandleBar x = five();
        for (int d : new int[] {-1, 8, MIN, MAX}) {
            Check.due("gives(" + d + ")", x.gives(d), -1);
        }
    }

    private static void givesNothing() {
        CandleBar x = five();
        Check.due("nothing", x.gives(0), -11);
        x.keep(1, 0, 0);
        Check.due("nothing any more", x.gives(1), -11);
    }

    private static void givesRow() {
        CandleBar x = five();
        for (int d = 2; d <= 4; d++) {
            Check.due("a row", x.gives(d), -12);
        }
        x.row(1, 0, 0);
        Check.due("an empty row over a light", x.gives(1), -12);
    }

    private static void tossEachNumber() {
        CandleBar x = new CandleBar();
        int[] kinds = {0, 1, 2, 4, 5};
        for (int k = 0; k <= 11; k++) {
            x.light(kinds[k % 5], 1, 0, 1 + k);
            x.keep(k % 8, 1, k);
            Check.due("light " + k, x.toss(k % 8), k);
            Check.due("again", x.toss(k % 8), k);
        }
    }

    private static void tossKept() {
        CandleBar x = new CandleBar();
        for (int k = 0; k <= 11; k++) {
            x.light(7, 1, 0, 200);
            x.keep(7, 1, k);
            Check.due("kept light " + k, x.toss(7), 100 + k);
        }
    }

    private static void tossGas() {
        CandleBar x = Check.lamps(1, 1, 1);
        x.light(3, 1, 0, 1);
        for (int setting : new int[] {1, 2, 99, 100, 199, 200}) {
            x.setting(3, setting);
            x.keep(0, 1, 3);
            Check.due("setting " + setting, x.toss(0), 200 + setting);
        }
    }

    private static void tossNoShelf() {
        CandleBar x = five();
        for (int d : new int[] {-1, 8, MIN, MAX}) {
            Check.due("toss(" + d + ")", x.toss(d), -1);
        }
    }

    private static void tossNothing() {
        CandleBar x = five();
        Check.due("nothing", x.toss(0), -11);
        x.keep(1, 0, 0);
        Check.due("nothing any more", x.toss(1), -11);
    }

    private static void tossRow() {
        CandleBar x = five();
        for (int d = 2; d <= 4; d++) {
            Check.due("a row", x.toss(d), -12);
        }
    }

    private static void tossOfNone() {
        CandleBar x = new CandleBar();
        for (int kind = 0; kind <= 7; kind++) {
            x.light(kind, 100, 50, 0);
            x.keep(kind, 1, kind);
            Check.due("setting 0, kind " + kind, x.toss(kind), -15);
            x.setting(kind, 1);
            Check.due("as it was then", x.toss(kind), -15);
            x.keep(kind, 1, kind);
            int want = kind == 6 ? -15 : kind == 3 ? 201 : kind == 7 ? 107 : kind;
            Check.due("setting 1, kind " + kind, x.toss(kind), want);
        }
        x.setting(6, 200);
        x.keep(6, 1, 6);
        Check.due("a metal has none", x.toss(6), -15);
    }
}
