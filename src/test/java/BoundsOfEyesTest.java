/** The boundaries that the document names for EYES, the bar, MATCHES and CHAINS: Terms 2, promises 7 to 15. */
public final class BoundsOfEyesTest {
    private static final int MIN = Integer.MIN_VALUE;
    private static final int MAX = Integer.MAX_VALUE;
    private static final long WRONG = -4000000000000000001L;
    private static final long NONE = -4000000000000000004L;
    /** The least number of each SORT. */
    private static final int[] LEAST = {-128, -32768, MIN};

    private BoundsOfEyesTest() {
    }

    public static void main(String[] args) {
        termsOfEyes();
        termsOfMatches();
        termsOfChains();
        promisesOfEyes();
        promisesOfMatches();
        promisesOfChains();
        Document.finish(7, 15);
    }

    private static void termsOfEyes() {
        String part = "Terms 2";
        Document.says(part, "EYES 0 .. 7 each weigh yellow and blue (1 .. 200 hundredths each; 100 at first)",
                BoundsOfEyesTest::weights);
        Document.says(part, "and lean to blue by so much a step of DIM (0 .. 20; 0 at first).", BoundsOfEyesTest::leans);
        Document.says(part, "DIM is 0 .. 9.", BoundsOfEyesTest::dims);
        Document.says(part, "(what it weighs yellow less d times its lean, 1 at least)", BoundsOfEyesTest::yellowAtLeast);
        Document.says(part, "(what it weighs blue and d times its lean)", BoundsOfEyesTest::blueAbove200);
        Document.says(part, "the place x (1 .. 99)", BoundsOfEyesTest::placesAtTheEnds);
        Document.says(part, "are least apart", BoundsOfEyesTest::leastApart);
        Document.says(part, "of several the least.", BoundsOfEyesTest::placesThatTie);
        Document.says(part, "(In 64 bits.)", BoundsOfEyesTest::placesIn64Bits);
    }

    private static void termsOfMatches() {
        String part = "Terms 2";
        Document.says(part, "MATCHES 0 .. 29 as they come", BoundsOfEyesTest::numbers);
        Document.says(part, "a place x (1 .. 99), a NIGHT (0 .. 999).", BoundsOfEyesTest::toldAtTheEnds);
        Document.says(part, "Others are told by ROWS, five elements each (a, b, EYE, x, NIGHT)", BoundsOfEyesTest::tells);
        Document.says(part, "one is TIRED (and the next one is read) if one of its five is the least number of their SORT",
                BoundsOfEyesTest::tired);
        Document.says(part, "the first that isn't as told (two LIGHTS that are there,", BoundsOfEyesTest::notAsTold);
        Document.says(part, "room) ends it", BoundsOfEyesTest::tellsWithoutRoom);
        Document.says(part, "(fewer than five elements are none)", BoundsOfEyesTest::fewerThanFive);
        Document.says(part, "A MATCH says that a is to b as x squared to (100 less x) squared",
                BoundsOfEyesTest::spansOfEachPlace);
        Document.says(part, "(x 1: at least 0;", BoundsOfEyesTest::atLeastNothing);
        Document.says(part, "99: no most)", BoundsOfEyesTest::noMost);
    }

    private static void termsOfChains() {
        String part = "Terms 2";
        Document.says(part, "the fewest MATCHES", BoundsOfEyesTest::fewest);
        Document.says(part, "MATCHES that aren't OUT that join them", BoundsOfEyesTest::withoutThoseOut);
        Document.says(part, "(4 at most)", BoundsOfEyesTest::fourAtMost);
        Document.says(part, "of several the first by the numbers of MATCHES from a on", BoundsOfEyesTest::firstByNumbers);
        Document.says(part, "as fractions in least terms: as told, at least, at most.", BoundsOfEyesTest::leastTerms);
    }

    private static void promisesOfEyes() {
        Document.says("Promise 7", "What an EYE weighs yellow (what 0), blue (1), its lean (2): what it was.",
                BoundsOfEyesTest::eyeWas);
        Document.says("Promise 7", "-1.", BoundsOfEyesTest::eyeNotAsTold);
        Document.says("Promise 8", "SEEN.", BoundsOfEyesTest::seenAtItsEnds);
        Document.says("Promise 8", "-4000000000000000001.", BoundsOfEyesTest::seenNotAsTold);
        Document.says("Promise 9", "ALIKE.", BoundsOfEyesTest::alikeInTheDim);
        Document.says("Promise 9", "-1 (one twice, too).", BoundsOfEyesTest::alikeNotAsTold);
    }

    private static void promisesOfMatches() {
        Document.says("Promise 10", "A MATCH as it would be ALIKE in DIM 0: its number.", BoundsOfEyesTest::matchInDim0);
        Document.says("Promise 10", "-1;", BoundsOfEyesTest::matchNotAsTold);
        Document.says("Promise 10", "-2.", BoundsOfEyesTest::matchWithoutRoom);
        Document.says("Promise 11", "how many came.", BoundsOfEyesTest::hearCounts);
        Document.says("Promise 11", "-1,", BoundsOfEyesTest::hearNoShelf);
        Document.says("Promise 11", "-11,", BoundsOfEyesTest::hearNothing);
        Document.says("Promise 11", "-12 (no ROW).", BoundsOfEyesTest::hearNoRow);
        Document.says("Promise 12", "0 a, 1 b, 2 EYE, 3 x, 4 NIGHT, 5 1 if OUT.", BoundsOfEyesTest::toldWhole);
        Document.says("Promise 12", "-1.", BoundsOfEyesTest::toldNotAsTold);
        Document.says("Promise 13", "A MATCH is OUT, or not: 1 if it was otherwise, else 0.", BoundsOfEyesTest::outOrNot);
        Document.says("Promise 13", "-1.", BoundsOfEyesTest::outNotAsTold);
    }

    private static void promisesOfChains() {
        Document.says("Promise 14", "how many MATCHES (i -1; 0 of a LIGHT to itself)", BoundsOfEyesTest::chainToItself);
        Document.says("Promise 14", "-4: none,", BoundsOfEyesTest::chainOfNone);
        Document.says("Promise 14", "not so many.", BoundsOfEyesTest::chainNotSoMany);
        Document.says("Promise 14", "-1.", BoundsOfEyesTest::chainNotAsTold);
        Document.says("Promise 15", "as told (what 0), at least (1), at most (2;", BoundsOfEyesTest::spanToItself);
        Document.says("Promise 15", "1 by 0 if there is no most)", BoundsOfEyesTest::noMostOfAll);
        Document.says("Promise 15", "above (part 0), below the line (1).", BoundsOfEyesTest::longestSpan);
        Document.says("Promise 15", "-4000000000000000001;", BoundsOfEyesTest::spanNotAsTold);
        Document.says("Promise 15", "-4000000000000000004.", BoundsOfEyesTest::spanOfNone);
    }

    // ---- EYES, the bar

    private static void weights() {
        CandleBar x = new CandleBar();
        for (int what = 0; what <= 1; what++) {
            for (int eye = 0; eye <= 7; eye++) {
                Check.due("at first", x.eye(eye, what, 1), 100);
                Check.due("0", x.eye(eye, what, 0), -1);
                Check.due("200", x.eye(eye, what, 200), 1);
                Check.due("201", x.eye(eye, what, 201), -1);
                Check.due("the least again", x.eye(eye, what, 1), 200);
            }
            Check.due("no eye 8", x.eye(8, what, 1), -1);
        }
    }

    private static void leans() {
        CandleBar x = new CandleBar();
        for (int eye = 0; eye <= 7; eye++) {
            Check.due("at first", x.eye(eye, 2, 20), 0);
            Check.due("21", x.eye(eye, 2, 21), -1);
            Check.due("-1", x.eye(eye, 2, -1), -1);
            Check.due("0", x.eye(eye, 2, 0), 20);
            Check.due("0 again", x.eye(eye, 2, 0), 0);
        }
    }

    private static void dims() {
        CandleBar x = Check.lamps(10, 20);
        x.eye(0, 2, 1);
        for (int dim = 0; dim <= 9; dim++) {
            Check.due("in dim " + dim, x.seen(0, 0, dim), 10 * (50 * (100 - dim) + 50 * (100 + dim)));
            Check.isTrue("a place in dim " + dim, x.alike(0, 1, 0, dim) > 0);
        }
        Check.due("no dim 10", x.seen(0, 0, 10), WRONG);
        Check.due("no dim -1", x.seen(0, 0, -1), WRONG);
        Check.due("no place in dim 10", x.alike(0, 1, 0, 10), -1);
        Check.due("no place in dim -1", x.alike(0, 1, 0, -1), -1);
    }

    private static void yellowAtLeast() {
        CandleBar x = new CandleBar();
        x.light(0, 1, 100, 0);
        x.eye(0, 0, 10);
        x.eye(0, 2, 3);
        long[] want = {1000, 700, 400, 100, 100, 100, 100, 100, 100, 100};
        for (int dim = 0; dim <= 9; dim++) {
            Check.due("10 less 3 times " + dim, x.seen(0, 0, dim), want[dim]);
        }
        x.eye(0, 0, 9);
        Check.due("9 less 3 times 2", x.seen(0, 0, 2), 300);
        Check.due("9 less 3 times 3", x.seen(0, 0, 3), 100);
        x.eye(0, 0, 1);
        x.eye(0, 2, 20);
        Check.due("1 less 180", x.seen(0, 0, 9), 100);
        x.eye(0, 0, 181);
        Check.due("181 less 180", x.seen(0, 0, 9), 100);
        x.eye(0, 0, 182);
        Check.due("182 less 180", x.seen(0, 0, 9), 200);
    }

    private static void blueAbove200() {
        CandleBar x = new CandleBar();
        x.light(0, 1, 0, 0);
        x.eye(7, 1, 200);
        x.eye(7, 2, 20);
        Check.due("200 and 0", x.seen(0, 7, 0), 20000);
        Check.due("200 and 20", x.seen(0, 7, 1), 22000);
        Check.due("200 and 180", x.seen(0, 7, 9), 38000);
    }

    private static void placesAtTheEnds() {
        CandleBar x = Check.lamps(1, 9999, 2401);
        Check.due("1 to 9999", x.alike(0, 1, 0, 0), 1);
        Check.due("9999 to 1", x.alike(1, 0, 0, 0), 99);
        Check.due("1 to 49 squared", x.alike(0, 2, 0, 0), 2);
        Check.due("49 squared to 1", x.alike(2, 0, 0, 0), 98);
        // Were there places 0 and 100, these two would be less apart there.
        x.light(3, 9999, 50, 200);
        Check.due("1 to 29997", x.alike(0, 3, 0, 0), 1);
        Check.due("29997 to 1", x.alike(3, 0, 0, 0), 99);
    }

    /** Two LIGHTS of which one is ahead of the other by k squared to (100 less k) squared are alike at k. */
    private static void leastApart() {
        for (int k = 1; k <= 99; k++) {
            CandleBar x = Check.lamps(k * k, (100 - k) * (100 - k));
            Check.due("at the very place", x.alike(0, 1, 0, 0), k);
            Check.due("from the other end", x.alike(1, 0, 0, 0), 100 - k);
        }
        CandleBar x = Check.lamps(2500, 2402, 2401, 2602, 2603);
        Check.due("245000 apart at 50, 245102 at 51", x.alike(0, 1, 0, 0), 50);
        Check.due("247500 apart at 50, 242501 at 51", x.alike(0, 2, 0, 0), 51);
        Check.due("255098 apart at 49, 255000 at 50", x.alike(0, 3, 0, 0), 50);
        Check.due("252697 apart at 49, 257500 at 50", x.alike(0, 4, 0, 0), 49);
    }

    /** Between places p and p and 1 the two are as far apart if a is to b as the sums of their squares. */
    private static void placesThatTie() {
        int[][] ties = {{1, 1, 3881}, {49, 4901, 5101}, {50, 5101, 4901}, {98, 3881, 1}};
        for (int[] tie : ties) {
            CandleBar x = Check.lamps(tie[1], tie[2]);
            Check.due("of " + tie[0] + " and the next place", x.alike(0, 1, 0, 0), tie[0]);
        }
        Check.due("a little less of b", Check.lamps(4901, 5100).alike(0, 1, 0, 0), 50);
        Check.due("a little more of b", Check.lamps(4901, 5102).alike(0, 1, 0, 0), 49);
        Check.due("a little less of b", Check.lamps(1, 3880).alike(0, 1, 0, 0), 2);
        Check.due("a little less of a", Check.lamps(3880, 1).alike(0, 1, 0, 0), 98);
        Check.due("a little more of a", Check.lamps(3882, 1).alike(0, 1, 0, 0), 99);
    }

    private static void placesIn64Bits() {
        CandleBar x = new CandleBar();
        x.light(3, 9999, 0, 200);
        x.light(3, 9999, 0, 200);
        x.light(0, 1, 0, 0);
        x.eye(0, 1, 200);
        x.eye(0, 2, 20);
        Check.due("SEEN", x.seen(0, 0, 9), 29997L * 38000);
        Check.due("the greatest, two alike", x.alike(0, 1, 0, 9), 50);
        Check.due("the greatest and the least", x.alike(0, 2, 0, 9), 99);
        Check.due("the least and the greatest", x.alike(2, 0, 0, 9), 1);
        x.light(3, 9999, 0, 122);
        // 22197 to 29997: 46 squared to 54 squared is .7257 to 1, 47 to 53 .7864; at 46 .0143, at 47 .0464 off.
        Check.due("the greatest and one of three quarters", x.alike(3, 0, 0, 9), 46);
    }

    // ---- MATCHES

    private static void numbers() {
        CandleBar x = Check.lamps(1, 1);
        for (int k = 0; k <= 29; k++) {
            Check.due("count", x.count(1), k);
            Check.due("not there yet", x.told(k, 4), -1);
            Check.due("match", x.match(0, 1, 0, 30 + k), k);
            Check.due("it is there", x.told(k, 4), 30 + k);
        }
        Check.due("no match 30", x.told(30, 4), -1);
    }

    private static void toldAtTheEnds() {
        CandleBar x = Check.lamps(1, 1);
        Check.due("night -1", x.match(0, 1, 0, -1), -1);
        Check.due("night 0", x.match(0, 1, 0, 0), 0);
        Check.due("night 999", x.match(0, 1, 0, 999), 1);
        Check.due("night 1000", x.match(0, 1, 0, 1000), -1);
        Check.due("told night -1", Check.tell(x, 0, 1, 0, 50, -1), 0);
        Check.due("told night 0", Check.tell(x, 0, 1, 0, 50, 0), 1);
        Check.due("told night 999", Check.tell(x, 0, 1, 0, 50, 999), 1);
        Check.due("told night 1000", Check.tell(x, 0, 1, 0, 50, 1000), 0);
        Check.due("told place 0", Check.tell(x, 0, 1, 0, 0, 5), 0);
        Check.due("told place 1", Check.tell(x, 0, 1, 0, 1, 5), 1);
        Check.due("told place 99", Check.tell(x, 0, 1, 0, 99, 5), 1);
        Check.due("told place 100", Check.tell(x, 0, 1, 0, 100, 5), 0);
        Check.due("six came", x.count(1), 6);
        int[][] want = {{50, 0}, {50, 999}, {50, 0}, {50, 999}, {1, 5}, {99, 5}};
        for (int k = 0; k < want.length; k++) {
            Check.due("place of " + k, x.told(k, 3), want[k][0]);
            Check.due("night of " + k, x.told(k, 4), want[k][1]);
        }
    }

    private static void tells() {
        CandleBar x = Check.lamps(1, 1, 1);
        Check.fill(x, 3, Check.BYTES, 0, 1, 7, 99, 127, 2, 0, 0, 1, 0);
        Check.due("bytes", x.hear(3), 2);
        Check.fill(x, 3, Check.SHORTS, 1, 2, 3, 4, 999);
        Check.due("shorts", x.hear(3), 1);
        Check.fill(x, 3, Check.INTS, 2, 1, 4, 5, 998);
        Check.due("ints", x.hear(3), 1);
        int[][] want = {{0, 1, 7, 99, 127, 0}, {2, 0, 0, 1, 0, 0}, {1, 2, 3, 4, 999, 0}, {2, 1, 4, 5, 998, 0}};
        for (int k = 0; k < want.length; k++) {
            for (int what = 0; what <= 5; what++) {
                Check.due("told(" + k + ", " + what + ")", x.told(k, what), want[k][what]);
            }
        }
        Check.dueElement(x, 3, 4, "998");
    }

    private static void tired() {
        for (int sort = 0; sort <= 2; sort++) {
            for (int k = 0; k < 5; k++) {
                CandleBar x = Check.lamps(1, 1);
                int[] row = {0, 1, 0, 50, 3, 1, 0, 0, 51, 4};
                row[k] = LEAST[sort];
                Check.fill(x, 0, sort, row);
                Check.due("the first is tired", x.hear(0), 1);
                Check.due("the second came", x.told(0, 3), 51);
                row[k] = LEAST[sort] + 1;
                Check.fill(x, 0, sort, row);
                Check.due("one above the least is not tired", x.hear(0), 0);
                row = new int[] {0, 1, 0, 50, 3, 1, 0, 0, 51, 4};
                row[5 + k] = LEAST[sort];
                Check.fill(x, 0, sort, row);
                Check.due("the second is tired", x.hear(0), 1);
            }
            CandleBar x = Check.lamps(1, 1);
            int least = LEAST[sort];
            Check.fill(x, 0, sort, least, least, least, least, least, 9, 9, 9, 9, least, 0, 1, 0, 50, 3, 0, 0, 0, 0, least);
            Check.due("all five are, one that isn't as told is", x.hear(0), 1);
            Check.fill(x, 0, sort, 0, 1, 0, 50, least);
            Check.due("the only one is", x.hear(0), 0);
        }
        CandleBar x = Check.lamps(1, 1);
        Check.fill(x, 0, Check.INTS, 0, 1, 0, 50, -32768, 0, 1, 0, 50, 0);
        Check.due("the least of shorts ends ints", x.hear(0), 0);
        Check.fill(x, 0, Check.SHORTS, 0, 1, 0, 50, -128, 0, 1, 0, 50, 0);
        Check.due("the least of bytes ends shorts", x.hear(0), 0);
        Check.fill(x, 0, Check.BYTES, 0, 1, 0, 50, 128, 0, 1, 0, 50, 0);
        Check.due("128 keeps the lowest bits of the least byte", x.hear(0), 1);
    }

    private static void notAsTold() {
        int[][] wrong = {
            {0, 3, 0, 50, 0}, {3, 0, 0, 50, 0}, {-1, 0, 0, 50, 0}, {0, -1, 0, 50, 0}, {1, 1, 0, 50, 0}, {0, 1, 8, 50, 0},
            {0, 1, -1, 50, 0}, {0, 1, 0, 0, 0}, {0, 1, 0, 100, 0}, {0, 1, 0, 50, -1}, {0, 1, 0, 50, 1000},
            {MAX, 1, 0, 50, 0}, {0, MAX, 0, 50, 0}, {0, 1, MAX, 50, 0}, {0, 1, 0, MAX, 0}, {0, 1, 0, 50, MAX},
        };
        for (int[] w : wrong) {
            CandleBar x = Check.lamps(1, 1, 1);
            Check.fill(x, 2, Check.INTS, 0, 2, 7, 1, 999, w[0], w[1], w[2], w[3], w[4], 0, 1, 2, 99, 0);
            Check.due("the second isn't as told", x.hear(2), 1);
            Check.due("one came", x.count(1), 1);
            Check.due("it is the first", x.told(0, 4), 999);
            Check.due("there is room behind it", x.match(0, 1, 0, 0), 1);
        }
        CandleBar x = new CandleBar();
        Check.fill(x, 2, Check.INTS, 0, 1, 0, 50, 0);
        Check.due("no lights are there", x.hear(2), 0);
    }

    private static void tellsWithoutRoom() {
        CandleBar x = Check.lamps(1, 1);
        for (int k = 0; k < 28; k++) {
            Check.due("match", x.match(0, 1, 0, 0), k);
        }
        Check.fill(x, 2, Check.BYTES, 0, 1, 0, 11, 0, 0, 1, 0, -128, 0, 0, 1, 0, 12, 0, 0, 1, 0, 13, 0);
        Check.due("room for two, the tired one takes none", x.hear(2), 2);
        Check.due("thirty", x.count(1), 30);
        Check.due("the last but one", x.told(28, 3), 11);
        Check.due("the last", x.told(29, 3), 12);
        Check.due("room for none", x.hear(2), 0);
        Check.due("still thirty", x.count(1), 30);
    }

    private static void fewerThanFive() {
        for (int sort = 0; sort <= 2; sort++) {
            CandleBar x = Check.lamps(1, 1);
            int[] row = {1, 0, 0, 50, 1, 1, 0, 0, 50, 1, 1, 0, 0, 50, 1};
            for (int n = 0; n <= 15; n++) {
                int[] part = new int[n];
                System.arraycopy(row, 0, part, 0, n);
                Check.fill(x, 2, sort, part);
                Check.due(n + " elements", x.hear(2), n / 5);
            }
        }
    }

    private static long common(long one, long other) {
        return other == 0 ? one : common(other, one % other);
    }

    private static void dueSpan(CandleBar x, int a, int b, int what, long above, long below) {
        long common = common(above, below);
        String call = "span(" + a + ", " + b + ", " + what + ", ";
        Check.due(call + "0)", x.span(a, b, what, 0), above / common);
        Check.due(call + "1)", x.span(a, b, what, 1), below / common);
    }

    private static void spansOfEachPlace() {
        for (int place = 1; place <= 99; place++) {
            CandleBar x = Check.lamps(1, 1);
            Check.tell(x, 0, 1, 0, place, 0);
            for (int what = 0; what <= 2; what++) {
                int by = what == 0 ? place : what == 1 ? place - 1 : place + 1;
                dueSpan(x, 0, 1, what, (long) by * by, (long) (100 - by) * (100 - by));
                int back = what == 0 ? place : what == 1 ? place + 1 : place - 1;
                dueSpan(x, 1, 0, what, (long) (100 - back) * (100 - back), (long) back * back);
            }
        }
    }

    private static void atLeastNothing() {
        CandleBar x = Check.lamps(1, 1, 1);
        Check.tell(x, 0, 1, 0, 1, 0);
        Check.tell(x, 1, 2, 0, 2, 0);
        dueSpan(x, 0, 1, 0, 1, 9801);
        dueSpan(x, 0, 1, 1, 0, 1);
        dueSpan(x, 0, 1, 2, 4, 9604);
        dueSpan(x, 1, 0, 1, 9604, 4);
        dueSpan(x, 1, 0, 2, 1, 0);
        dueSpan(x, 1, 2, 1, 1, 9801);
        dueSpan(x, 2, 1, 2, 9801, 1);
        dueSpan(x, 0, 2, 1, 0, 1);
        dueSpan(x, 2, 0, 2, 1, 0);
    }

    private static void noMost() {
        CandleBar x = Check.lamps(1, 1, 1);
        Check.tell(x, 0, 1, 0, 99, 0);
        Check.tell(x, 1, 2, 0, 98, 0);
        dueSpan(x, 0, 1, 0, 9801, 1);
        dueSpan(x, 0, 1, 1, 9604, 4);
        dueSpan(x, 0, 1, 2, 1, 0);
        dueSpan(x, 1, 0, 1, 0, 1);
        dueSpan(x, 1, 2, 2, 9801, 1);
        dueSpan(x, 0, 2, 2, 1, 0);
        dueSpan(x, 2, 0, 1, 0, 1);
    }

    // ---- CHAINS

    private static CandleBar line(int lights) {
        CandleBar x = new CandleBar();
        for (int k = 0; k < lights; k++) {
            x.light(0, 1, 50, 1);
        }
        for (int k = 0; k + 1 < lights; k++) {
            Check.due("match " + k, x.match(k, k + 1, 0, 0), k);
        }
        return x;
    }

    private static void fewest() {
        CandleBar x = line(5);
        Check.due("four", x.chain(0, 4, -1), 4);
        x.match(1, 4, 0, 0);
        Check.due("two", x.chain(0, 4, -1), 2);
        Check.due("by the new one", x.chain(0, 4, 1), 4);
        x.match(4, 0, 0, 0);
        Check.due("one", x.chain(0, 4, -1), 1);
        Check.due("the newest", x.chain(0, 4, 0), 5);
        Check.due("the newest, from its a", x.chain(4, 0, 0), 5);
    }

    private static void withoutThoseOut() {
        CandleBar x = line(3);
        x.match(0, 1, 0, 0);
        x.out(0, true);
        Check.due("two still", x.chain(0, 2, -1), 2);
        Check.due("by the other one", x.chain(0, 2, 0), 2);
        x.out(2, true);
        Check.due("none is left", x.chain(0, 2, -1), -4);
        Check.due("nor a span", x.span(0, 2, 0, 0), NONE);
        x.out(0, false);
        Check.due("the first again", x.chain(0, 2, 0), 0);
    }

    private static void fourAtMost() {
        CandleBar x = line(6);
        for (int far = 1; far <= 4; far++) {
            Check.due(far + " on", x.chain(0, far, -1), far);
            Check.due(far + " back", x.chain(5, 5 - far, -1), far);
        }
        Check.due("five on", x.chain(0, 5, -1), -4);
        Check.due("five back", x.chain(5, 0, -1), -4);
        Check.due("no span of five", x.span(0, 5, 0, 0), NONE);
        Check.due("all are joined for all that", x.count(5), 15);
    }

    private static void firstByNumbers() {
        CandleBar x = Check.lamps(1, 1, 1, 1);
        x.match(1, 3, 0, 0);
        x.match(0, 2, 0, 0);
        x.match(0, 1, 0, 0);
        x.match(2, 3, 0, 0);
        x.match(2, 3, 0, 0);
        Check.due("from 0: 1", x.chain(0, 3, 0), 1);
        Check.due("then 3, not 4", x.chain(0, 3, 1), 3);
        Check.due("from 3: 0", x.chain(3, 0, 0), 0);
        Check.due("then 2", x.chain(3, 0, 1), 2);
        x.out(1, true);
        Check.due("1 is out", x.chain(0, 3, 0), 2);
        x = Check.lamps(1, 1);
        x.match(1, 0, 0, 0);
        x.match(0, 1, 0, 0);
        Check.due("of two that are alike the first", x.chain(0, 1, 0), 0);
    }

    private static void leastTerms() {
        CandleBar x = Check.lamps(1, 1, 1);
        Check.tell(x, 0, 1, 0, 20, 0);
        Check.tell(x, 1, 2, 0, 80, 0);
        long[] want = {1, 16, 361, 6561, 441, 6241};
        long[] both = {1, 1, 361L * 6241, 6561L * 441, 441L * 6561, 6241L * 361};
        for (int k = 0; k < 6; k++) {
            Check.due("one, " + k, x.span(0, 1, k / 2, k % 2), want[k]);
            Check.due("both, " + k, x.span(0, 2, k / 2, k % 2), both[k]);
        }
        Check.due("half: 1 by 1", x.match(0, 2, 0, 0), 2);
        Check.due("above", x.span(0, 2, 0, 0), 1);
        Check.due("below", x.span(0, 2, 0, 1), 1);
    }

    // ---- promises 7 to 9

    private static void eyeWas() {
        CandleBar x = new CandleBar();
        int[] first = {100, 100, 0};
        for (int what = 0; what <= 2; what++) {
            Check.due("at first", x.eye(5, what, 20), first[what]);
            Check.due("the same again", x.eye(5, what, 20), 20);
            Check.due("another eye", x.eye(4, what, 20), first[what]);
            for (int other = what + 1; other <= 2; other++) {
                Check.due("what is not told stays", x.eye(5, other, first[other]), first[other]);
            }
        }
    }

    private static void eyeNotAsTold() {
        CandleBar x = new CandleBar();
        int[][] wrong = {
            {-1, 0, 5}, {8, 0, 5}, {MIN, 0, 5}, {MAX, 0, 5}, {0, -1, 5}, {0, 3, 5}, {0, MIN, 5}, {0, MAX, 5}, {0, 0, 0},
            {0, 0, 201}, {0, 0, MIN}, {0, 0, MAX}, {0, 1, 0}, {0, 1, 201}, {0, 1, MIN}, {0, 1, MAX}, {0, 2, -1}, {0, 2, 21},
            {0, 2, 200}, {0, 2, MIN}, {0, 2, MAX}, {8, 3, 201}, {-1, -1, -1},
        };
        for (int[] w : wrong) {
            Check.due("eye(" + w[0] + ", " + w[1] + ", " + w[2] + ")", x.eye(w[0], w[1], w[2]), -1);
        }
        Check.due("yellow as it was", x.eye(0, 0, 1), 100);
        Check.due("blue as it was", x.eye(0, 1, 1), 100);
        Check.due("lean as it was", x.eye(0, 2, 1), 0);
    }

    private static void seenAtItsEnds() {
        CandleBar x = new CandleBar();
        x.light(0, 1, 0, 0);
        x.light(3, 9999, 0, 200);
        for (int k = 2; k <= 10; k++) {
            x.light(0, 1, 0, 0);
        }
        x.light(0, 7, 50, 0);
        x.eye(7, 1, 1);
        Check.due("the least that can be seen", x.seen(0, 7, 0), 100);
        Check.due("the last light, the first eye", x.seen(11, 0, 0), 70000);
        x.eye(7, 1, 200);
        x.eye(7, 2, 20);
        Check.due("the most that can be seen", x.seen(1, 7, 9), 1139886000L);
    }

    private static void seenNotAsTold() {
        CandleBar x = Check.lamps(1, 1);
        int[][] wrong = {
            {-1, 0, 0}, {2, 0, 0}, {12, 0, 0}, {MIN, 0, 0}, {MAX, 0, 0}, {0, -1, 0}, {0, 8, 0}, {0, MIN, 0}, {0, MAX, 0},
            {0, 0, -1}, {0, 0, 10}, {0, 0, MIN}, {0, 0, MAX}, {2, 8, 10},
        };
        for (int[] w : wrong) {
            Check.due("seen(" + w[0] + ", " + w[1] + ", " + w[2] + ")", x.seen(w[0], w[1], w[2]), WRONG);
        }
    }

    private static void alikeInTheDim() {
        CandleBar x = new CandleBar();
        x.light(0, 100, 100, 1);
        x.light(0, 100, 0, 1);
        Check.due("an eye that doesn't lean, in dim 0", x.alike(0, 1, 3, 0), 50);
        Check.due("in dim 9", x.alike(0, 1, 3, 9), 50);
        x.eye(3, 2, 11);
        Check.due("one that leans, in dim 0", x.alike(0, 1, 3, 0), 50);
        // 1 to 199: at 7 it is 49 to 8649, so 8649 to 9751; at 6 8836 to 7164.
        Check.due("in dim 9", x.alike(0, 1, 3, 9), 7);
        Check.due("from the other end", x.alike(1, 0, 3, 9), 93);
    }

    private static void alikeNotAsTold() {
        CandleBar x = Check.lamps(1, 1);
        int[][] wrong = {
            {0, 0, 0, 0}, {1, 1, 0, 0}, {2, 2, 0, 0}, {-1, 0, 0, 0}, {0, -1, 0, 0}, {2, 0, 0, 0}, {0, 2, 0, 0},
            {MIN, 0, 0, 0}, {0, MAX, 0, 0}, {0, 1, -1, 0}, {0, 1, 8, 0}, {0, 1, MIN, 0}, {0, 1, MAX, 0}, {0, 1, 0, -1},
            {0, 1, 0, 10}, {0, 1, 0, MIN}, {0, 1, 0, MAX},
        };
        for (int[] w : wrong) {
            String call = "alike(" + w[0] + ", " + w[1] + ", " + w[2] + ", " + w[3] + ")";
            Check.due(call, x.alike(w[0], w[1], w[2], w[3]), -1);
        }
    }

    // ---- promises 10 to 13

    private static void matchInDim0() {
        CandleBar x = new CandleBar();
        x.light(0, 100, 100, 1);
        x.light(0, 100, 0, 1);
        x.eye(7, 0, 200);
        x.eye(7, 1, 50);
        x.eye(7, 2, 20);
        Check.due("first", x.match(0, 1, 7, 0), 0);
        Check.due("4 to 1, whatever it leans", x.told(0, 3), 67);
        x.eye(7, 0, 50);
        Check.due("it stays as it was told", x.told(0, 3), 67);
        Check.due("second", x.match(0, 1, 7, 0), 1);
        Check.due("1 to 1", x.told(1, 3), 50);
    }

    private static void matchNotAsTold() {
        CandleBar x = Check.lamps(1, 1);
        int[][] wrong = {
            {0, 0, 0, 0}, {1, 1, 0, 0}, {-1, 0, 0, 0}, {0, -1, 0, 0}, {2, 0, 0, 0}, {0, 2, 0, 0}, {MIN, 0, 0, 0},
            {0, MAX, 0, 0}, {0, 1, -1, 0}, {0, 1, 8, 0}, {0, 1, MIN, 0}, {0, 1, MAX, 0}, {0, 1, 0, -1}, {0, 1, 0, 1000},
            {0, 1, 0, MIN}, {0, 1, 0, MAX},
        };
        for (int[] w : wrong) {
            String call = "match(" + w[0] + ", " + w[1] + ", " + w[2] + ", " + w[3] + ")";
            Check.due(call, x.match(w[0], w[1], w[2], w[3]), -1);
        }
        Check.due("none came", x.count(1), 0);
    }

    private static void matchWithoutRoom() {
        CandleBar x = Check.lamps(1, 1);
        for (int k = 0; k <= 29; k++) {
            Check.due("there is room", x.match(k % 2, 1 - k % 2, k % 8, k), k);
        }
        Check.due("no room", x.match(0, 1, 0, 0), -2);
        Check.due("one that is out takes room too", x.out(3, true) + x.match(0, 1, 0, 0), 1 - 2);
        Check.due("not as told is ahead of no room", x.match(0, 1, 0, 1000), -1);
        Check.due("one twice is ahead of no room", x.match(0, 0, 0, 0), -1);
        Check.due("thirty", x.count(1), 30);
        Check.due("the last is as it was", x.told(29, 4), 29);
    }

    private static void hearCounts() {
        CandleBar x = Check.lamps(1, 1);
        int[] row = new int[100];
        for (int i = 0; i < 100; i += 5) {
            row[i + 1] = 1;
            row[i + 3] = 1 + i / 5;
        }
        Check.fill(x, 0, Check.BYTES, row);
        Check.due("a whole row", x.hear(0), 20);
        Check.due("its last", x.told(19, 3), 20);
        Check.due("none of an empty one", x.row(7, Check.INTS, 0) + x.hear(7), 0);
        Check.due("none of zeros: one light twice", x.row(7, Check.INTS, 100) + x.hear(7), 0);
    }

    private static void hearNoShelf() {
        CandleBar x = Check.lamps(1, 1);
        for (int d : new int[] {-1, 8, MIN, MAX}) {
            Check.due("hear(" + d + ")", x.hear(d), -1);
        }
    }

    private static void hearNothing() {
        CandleBar x = Check.lamps(1, 1);
        for (int d = 0; d <= 7; d++) {
            Check.due("nothing at first", x.hear(d), -11);
        }
        x.row(3, Check.BYTES, 5);
        x.keep(3, 0, 0);
        Check.due("nothing again", x.hear(3), -11);
    }

    private static void hearNoRow() {
        CandleBar x = Check.lamps(1, 1);
        x.keep(0, 1, 0);
        x.keep(7, 1, 1);
        Check.due("a light", x.hear(0), -12);
        Check.due("a light", x.hear(7), -12);
    }

    private static void toldWhole() {
        CandleBar x = new CandleBar();
        for (int k = 0; k <= 11; k++) {
            x.light(0, 1, 0, 0);
        }
        x.match(11, 10, 7, 999);
        int[] want = {11, 10, 7, 50, 999, 0};
        for (int what = 0; what <= 5; what++) {
            Check.due("told(0, " + what + ")", x.told(0, what), want[what]);
        }
        x.out(0, true);
        Check.due("out", x.told(0, 5), 1);
        Check.due("its place stays", x.told(0, 3), 50);
    }

    private static void toldNotAsTold() {
        CandleBar x = Check.lamps(1, 1);
        Check.due("no match yet", x.told(0, 0), -1);
        x.match(0, 1, 0, 0);
        int[][] wrong = {{-1, 0}, {1, 0}, {30, 0}, {MIN, 0}, {MAX, 0}, {0, -1}, {0, 6}, {0, MIN}, {0, MAX}, {1, 6}};
        for (int[] w : wrong) {
            Check.due("told(" + w[0] + ", " + w[1] + ")", x.told(w[0], w[1]), -1);
        }
    }

    private static void outOrNot() {
        CandleBar x = Check.lamps(1, 1);
        for (int k = 0; k <= 29; k++) {
            x.match(0, 1, 0, 0);
        }
        for (int k = 0; k <= 29; k++) {
            Check.due("not out already", x.out(k, false), 0);
            Check.due("out", x.out(k, true), 1);
            Check.due("out already", x.out(k, true), 0);
            Check.due("so many", x.count(2), k + 1);
        }
        Check.due("nothing joins them", x.count(5), 0);
        Check.due("in again", x.out(29, false), 1);
        Check.due("one fewer", x.count(2), 29);
        Check.due("joined again", x.count(5), 1);
    }

    private static void outNotAsTold() {
        CandleBar x = Check.lamps(1, 1);
        Check.due("no match yet", x.out(0, true), -1);
        x.match(0, 1, 0, 0);
        for (int k : new int[] {-1, 1, 30, MIN, MAX}) {
            Check.due("out(" + k + ", true)", x.out(k, true), -1);
            Check.due("out(" + k + ", false)", x.out(k, false), -1);
        }
        Check.due("none is out", x.count(2), 0);
    }

    // ---- promises 14, 15

    private static void chainToItself() {
        CandleBar x = line(3);
        for (int k = 0; k < 3; k++) {
            Check.due("of none", x.chain(k, k, -1), 0);
            Check.due("no first", x.chain(k, k, 0), -4);
        }
        x.out(0, true);
        x.out(1, true);
        Check.due("without any match", x.chain(1, 1, -1), 0);
    }

    private static void chainOfNone() {
        CandleBar x = Check.lamps(1, 1, 1);
        x.match(0, 1, 0, 0);
        for (int i = -1; i <= 4; i++) {
            Check.due("nothing joins 2", x.chain(0, 2, i), -4);
            Check.due("nothing joins 2", x.chain(2, 1, i), -4);
        }
    }

    private static void chainNotSoMany() {
        CandleBar x = line(5);
        for (int far = 1; far <= 4; far++) {
            Check.due("the last of " + far, x.chain(0, far, far - 1), far - 1);
            Check.due("not so many as " + (far + 1), x.chain(0, far, far), -4);
            Check.due("far beyond", x.chain(0, far, MAX), -4);
        }
    }

    private static void chainNotAsTold() {
        CandleBar x = line(2);
        int[][] wrong = {
            {-1, 0, -1}, {0, -1, -1}, {2, 0, -1}, {0, 2, -1}, {2, 2, -1}, {MIN, 0, -1}, {0, MAX, 0}, {0, 1, -2}, {0, 1, MIN},
            {0, 0, -2},
        };
        for (int[] w : wrong) {
            Check.due("chain(" + w[0] + ", " + w[1] + ", " + w[2] + ")", x.chain(w[0], w[1], w[2]), -1);
        }
        Check.due("no lights at all", new CandleBar().chain(0, 0, -1), -1);
    }

    private static void spanToItself() {
        CandleBar x = line(2);
        for (int what = 0; what <= 2; what++) {
            dueSpan(x, 0, 0, what, 1, 1);
            dueSpan(x, 1, 1, what, 1, 1);
        }
    }

    private static void noMostOfAll() {
        for (int k = 0; k < 4; k++) {
            CandleBar x = Check.lamps(1, 1, 1, 1, 1);
            for (int i = 0; i < 4; i++) {
                Check.tell(x, i, i + 1, 0, i == k ? 99 : 20 + i, 0);
            }
            Check.due("above", x.span(0, 4, 2, 0), 1);
            Check.due("below", x.span(0, 4, 2, 1), 0);
            Check.due("back, above", x.span(4, 0, 1, 0), 0);
            Check.due("back, below", x.span(4, 0, 1, 1), 1);
            Check.isTrue("there is a least", x.span(0, 4, 1, 1) > 0);
        }
    }

    private static void longestSpan() {
        CandleBar x = Check.lamps(1, 1, 1, 1, 1);
        for (int k = 0; k < 4; k++) {
            Check.tell(x, k, k + 1, 0, 98, 0);
        }
        // 99 to 1, 97 to 3 and 49 to 1, each squared, four times: below 64 bits.
        Check.due("at most", x.span(0, 4, 2, 0), 9227446944279201L);
        Check.due("by", x.span(0, 4, 2, 1), 1);
        Check.due("at least", x.span(0, 4, 1, 0), 7837433594376961L);
        Check.due("by", x.span(0, 4, 1, 1), 6561);
        Check.due("as told", x.span(0, 4, 0, 0), 33232930569601L);
        Check.due("back, by", x.span(4, 0, 1, 1), 9227446944279201L);
    }

    private static void spanNotAsTold() {
        CandleBar x = line(2);
        int[][] wrong = {
            {-1, 0, 0, 0}, {0, -1, 0, 0}, {2, 0, 0, 0}, {0, 2, 0, 0}, {2, 2, 0, 0}, {MIN, 0, 0, 0}, {0, MAX, 0, 0},
            {0, 1, -1, 0}, {0, 1, 3, 0}, {0, 1, MIN, 0}, {0, 1, MAX, 0}, {0, 1, 0, -1}, {0, 1, 0, 2}, {0, 1, 0, MIN},
            {0, 1, 0, MAX}, {0, 0, 3, 0}, {0, 0, 0, 2},
        };
        for (int[] w : wrong) {
            String call = "span(" + w[0] + ", " + w[1] + ", " + w[2] + ", " + w[3] + ")";
            Check.due(call, x.span(w[0], w[1], w[2], w[3]), WRONG);
        }
    }

    private static void spanOfNone() {
        CandleBar x = Check.lamps(1, 1, 1);
        x.match(0, 1, 0, 0);
        for (int what = 0; what <= 2; what++) {
            for (int part = 0; part <= 1; part++) {
                Check.due("nothing joins 2", x.span(0, 2, what, part), NONE);
                Check.due("nothing joins 2", x.span(2, 0, what, part), NONE);
            }
        }
        Check.due("not as told is ahead of none", x.span(0, 2, 3, 0), WRONG);
        x.out(0, true);
        Check.due("the only one is out", x.span(0, 1, 0, 0), NONE);
    }
}
