/** Promises 7 to 15: eye, seen, alike, match, hear, told, out, chain, span. */
public final class EyesTest {
    private static final long WRONG = Check.OF_LONGS - 1;
    private static final long NONE = Check.OF_LONGS - 4;

    private EyesTest() {
    }

    public static void main(String[] args) {
        eye();
        seen();
        alike();
        alikeOfSeveral();
        match();
        hear();
        hearSorts();
        hearWithoutRoom();
        told();
        out();
        chain();
        chainOfSeveral();
        span();
        spanEnds();
        spanOfFour();
        Check.finish();
    }

    private static CandleBar lamps(int many) {
        CandleBar x = new CandleBar();
        for (int k = 0; k < many; k++) {
            x.light(0, 100, 50, 1);
        }
        return x;
    }

    private static void eye() {
        CandleBar x = new CandleBar();
        Check.due("yellow to 1", x.eye(0, 0, 1), 100);
        Check.due("yellow to 200", x.eye(0, 0, 200), 1);
        Check.due("yellow to 0", x.eye(0, 0, 0), -1);
        Check.due("yellow to 201", x.eye(0, 0, 201), -1);
        Check.due("blue to 1", x.eye(7, 1, 1), 100);
        Check.due("blue to 200", x.eye(7, 1, 200), 1);
        Check.due("blue to 0", x.eye(7, 1, 0), -1);
        Check.due("blue to 201", x.eye(7, 1, 201), -1);
        Check.due("lean to 20", x.eye(3, 2, 20), 0);
        Check.due("lean to 0", x.eye(3, 2, 0), 20);
        Check.due("lean to 21", x.eye(3, 2, 21), -1);
        Check.due("lean to -1", x.eye(3, 2, -1), -1);
        Check.due("no eye 8", x.eye(8, 0, 5), -1);
        Check.due("no eye -1", x.eye(-1, 0, 5), -1);
        Check.due("no what 3", x.eye(0, 3, 5), -1);
        Check.due("no what -1", x.eye(0, -1, 5), -1);
        Check.due("yellow unchanged", x.eye(0, 0, 5), 200);
        Check.due("blue unchanged", x.eye(7, 1, 5), 200);
        Check.due("lean unchanged", x.eye(3, 2, 5), 0);
    }

    private static void seen() {
        CandleBar x = new CandleBar();
        x.light(0, 50, 30, 1);
        Check.due("by an eye as at first", x.seen(0, 0, 0), 50 * 100 * 100);
        x.eye(1, 0, 20);
        x.eye(1, 1, 7);
        x.eye(1, 2, 3);
        Check.due("in dim 0", x.seen(0, 1, 0), 50 * (30 * 20 + 70 * 7));
        Check.due("in dim 6", x.seen(0, 1, 6), 50 * (30 * 2 + 70 * 25));
        Check.due("yellow 1 at least", x.seen(0, 1, 9), 50 * (30 + 70 * 34));
        x.light(3, 9999, 0, 200);
        x.eye(2, 1, 200);
        x.eye(2, 2, 20);
        Check.due("above 32 bits", x.seen(1, 2, 9), 29997L * 38000);
        Check.due("no light", x.seen(2, 0, 0), WRONG);
        Check.due("no light -1", x.seen(-1, 0, 0), WRONG);
        Check.due("no eye", x.seen(0, 8, 0), WRONG);
        Check.due("no eye -1", x.seen(0, -1, 0), WRONG);
        Check.due("no dim", x.seen(0, 0, 10), WRONG);
        Check.due("no dim -1", x.seen(0, 0, -1), WRONG);
    }

    private static void alike() {
        CandleBar x = new CandleBar();
        x.light(0, 100, 50, 1);
        x.light(0, 100, 50, 1);
        x.light(0, 9999, 50, 1);
        x.light(0, 1, 50, 1);
        x.light(0, 400, 50, 1);
        Check.due("two of one strength", x.alike(0, 1, 0, 0), 50);
        Check.due("the least place", x.alike(3, 2, 0, 0), 1);
        Check.due("the greatest place", x.alike(2, 3, 0, 0), 99);
        Check.due("1 to 4", x.alike(0, 4, 0, 0), 33);
        Check.due("4 to 1", x.alike(4, 0, 0, 0), 67);
        Check.due("one twice", x.alike(0, 0, 0, 0), -1);
        Check.due("no light b", x.alike(0, 5, 0, 0), -1);
        Check.due("no light a", x.alike(5, 0, 0, 0), -1);
        Check.due("no eye", x.alike(0, 1, 8, 0), -1);
        Check.due("no dim", x.alike(0, 1, 0, 10), -1);
        Check.due("no dim -1", x.alike(0, 1, 0, -1), -1);
    }

    /** At the places 1 and 2 a has 9801 and 9604 squares, b 1 and 4; 19405 to 5 is 3881 to 1. */
    private static void alikeOfSeveral() {
        CandleBar x = new CandleBar();
        x.light(0, 1, 50, 1);
        x.light(0, 3881, 50, 1);
        x.light(0, 3880, 50, 1);
        Check.due("of two places the least", x.alike(0, 1, 0, 0), 1);
        Check.due("just beyond", x.alike(0, 2, 0, 0), 2);
    }

    private static void match() {
        CandleBar x = lamps(3);
        x.light(0, 400, 50, 1);
        Check.due("first", x.match(0, 3, 7, 999), 0);
        Check.due("second", x.match(3, 0, 0, 0), 1);
        Check.due("its place", x.told(0, 3), 33);
        Check.due("its place", x.told(1, 3), 67);
        Check.due("one twice", x.match(1, 1, 0, 0), -1);
        Check.due("no light", x.match(0, 4, 0, 0), -1);
        Check.due("no light", x.match(-1, 0, 0, 0), -1);
        Check.due("no eye", x.match(0, 1, 8, 0), -1);
        Check.due("no eye", x.match(0, 1, -1, 0), -1);
        Check.due("no night", x.match(0, 1, 0, 1000), -1);
        Check.due("no night", x.match(0, 1, 0, -1), -1);
        Check.due("two came", x.count(1), 2);
        for (int k = 2; k < 30; k++) {
            Check.due("match " + k, x.match(0, 1, 0, k), k);
        }
        Check.due("no room", x.match(0, 1, 0, 0), -2);
        Check.due("wrong is ahead of no room", x.match(0, 1, 0, 1000), -1);
        Check.due("thirty", x.count(1), 30);
        x = new CandleBar();
        x.light(0, 100, 100, 1);
        x.light(0, 100, 0, 1);
        x.eye(0, 2, 20);
        x.match(0, 1, 0, 0);
        Check.due("in dim 0", x.told(0, 3), 50);
    }

    private static void hear() {
        CandleBar x = lamps(3);
        Check.due("no shelf", x.hear(-1), -1);
        Check.due("no shelf", x.hear(8), -1);
        Check.due("nothing", x.hear(2), -11);
        x.keep(2, 1, 0);
        Check.due("a light", x.hear(2), -12);
        int[][] wrong = {
            {0, 3, 0, 50, 0}, {3, 0, 0, 50, 0}, {-1, 0, 0, 50, 0}, {1, 1, 0, 50, 0}, {0, 1, 8, 50, 0},
            {0, 1, -1, 50, 0}, {0, 1, 0, 0, 0}, {0, 1, 0, 100, 0}, {0, 1, 0, 50, -1}, {0, 1, 0, 50, 1000},
        };
        for (int[] w : wrong) {
            Check.fill(x, 2, Check.INTS, 0, 2, 7, 1, 999, w[0], w[1], w[2], w[3], w[4], 0, 1, 2, 99, 0);
            Check.due("the second isn't as told", x.hear(2), 1);
        }
        Check.due("ten came", x.count(1), 10);
        int[] want = {0, 2, 7, 1, 999, 0};
        for (int what = 0; what < 6; what++) {
            Check.due("told(9, " + what + ")", x.told(9, what), want[what]);
        }
        Check.fill(x, 2, Check.SHORTS, 0, 1, 0, 5);
        Check.due("four elements", x.hear(2), 0);
        Check.fill(x, 2, Check.SHORTS, 0, 1, 0, 5, 6, 1, 0, 0, 5);
        Check.due("nine elements", x.hear(2), 1);
        Check.fill(x, 2, Check.SHORTS);
        Check.due("no elements", x.hear(2), 0);
    }

    private static void hearSorts() {
        int[] least = {-128, -32768, Integer.MIN_VALUE};
        for (int sort = 0; sort < 3; sort++) {
            for (int k = 0; k < 5; k++) {
                CandleBar x = lamps(2);
                int[] row = {0, 1, 0, 50, 3, 1, 0, 0, 51, 4};
                row[k] = least[sort];
                Check.fill(x, 0, sort, row);
                Check.due("the first is tired", x.hear(0), 1);
                Check.due("the second came", x.told(0, 3), 51);
            }
        }
        CandleBar x = lamps(2);
        Check.fill(x, 0, Check.INTS, 0, 1, 0, 50, -32768, 0, 1, 0, 50, 0);
        Check.due("least of shorts in ints is not tired", x.hear(0), 0);
        Check.fill(x, 0, Check.SHORTS, 0, 1, 0, 50, -128, 0, 1, 0, 50, 0);
        Check.due("least of bytes in shorts is not tired", x.hear(0), 0);
        Check.fill(x, 0, Check.BYTES, 0, 1, 0, 50, 128, 0, 1, 0, 50, 0);
        Check.due("128 is cut to the least", x.hear(0), 1);
    }

    private static void hearWithoutRoom() {
        CandleBar x = lamps(2);
        int[] row = new int[100];
        for (int i = 0; i < 100; i += 5) {
            row[i + 1] = 1;
            row[i + 3] = 1 + i / 5;
        }
        Check.fill(x, 7, Check.BYTES, row);
        Check.due("twenty", x.hear(7), 20);
        Check.due("ten more", x.hear(7), 10);
        Check.due("no room", x.hear(7), 0);
        Check.due("thirty", x.count(1), 30);
        Check.due("the last", x.told(29, 3), 10);
    }

    private static void told() {
        CandleBar x = lamps(3);
        x.match(2, 1, 5, 17);
        int[] want = {2, 1, 5, 50, 17, 0};
        for (int what = 0; what < 6; what++) {
            Check.due("told(0, " + what + ")", x.told(0, what), want[what]);
        }
        Check.due("no what", x.told(0, 6), -1);
        Check.due("no what", x.told(0, -1), -1);
        Check.due("no match", x.told(1, 0), -1);
        Check.due("no match", x.told(-1, 0), -1);
        Check.due("no match", x.told(30, 0), -1);
        x.out(0, true);
        Check.due("out", x.told(0, 5), 1);
    }

    private static void out() {
        CandleBar x = lamps(2);
        x.match(0, 1, 0, 0);
        Check.due("not out already", x.out(0, false), 0);
        Check.due("out", x.out(0, true), 1);
        Check.due("out already", x.out(0, true), 0);
        Check.due("one out", x.count(2), 1);
        Check.due("in again", x.out(0, false), 1);
        Check.due("none out", x.count(2), 0);
        Check.due("no match", x.out(1, true), -1);
        Check.due("no match", x.out(-1, true), -1);
    }

    private static void chain() {
        CandleBar x = lamps(7);
        for (int k = 0; k < 5; k++) {
            x.match(k + 1, k, 0, 0);
        }
        Check.due("to itself", x.chain(3, 3, -1), 0);
        Check.due("to itself, the first", x.chain(3, 3, 0), -4);
        Check.due("four", x.chain(0, 4, -1), 4);
        for (int i = 0; i < 4; i++) {
            Check.due("forth", x.chain(0, 4, i), i);
            Check.due("back", x.chain(4, 0, i), 3 - i);
        }
        Check.due("not so many", x.chain(0, 4, 4), -4);
        Check.due("not so many", x.chain(0, 4, Integer.MAX_VALUE), -4);
        Check.due("five are too many", x.chain(0, 5, -1), -4);
        Check.due("five are too many", x.chain(0, 5, 0), -4);
        Check.due("nothing joins", x.chain(0, 6, -1), -4);
        Check.due("no light", x.chain(0, 7, -1), -1);
        Check.due("no light", x.chain(7, 0, -1), -1);
        Check.due("no light", x.chain(-1, 0, -1), -1);
        Check.due("no place below -1", x.chain(0, 1, -2), -1);
        Check.due("wrong is ahead of none", x.chain(0, 6, -2), -1);
        x.out(2, true);
        Check.due("one is out", x.chain(0, 4, -1), -4);
        Check.due("short of it", x.chain(0, 2, -1), 2);
        x.out(2, false);
        Check.due("in again", x.chain(0, 4, -1), 4);
    }

    private static void chainOfSeveral() {
        CandleBar x = lamps(5);
        x.match(1, 3, 0, 0);
        x.match(2, 3, 0, 0);
        x.match(2, 3, 0, 0);
        x.match(0, 2, 0, 0);
        x.match(1, 0, 0, 0);
        Check.due("from 0 on the first is 3", x.chain(0, 3, 0), 3);
        Check.due("then 1, not 2", x.chain(0, 3, 1), 1);
        Check.due("from 3 on the first is 0", x.chain(3, 0, 0), 0);
        Check.due("then 4", x.chain(3, 0, 1), 4);
        x.match(3, 0, 0, 0);
        Check.due("the fewest", x.chain(0, 3, -1), 1);
        Check.due("the fewest", x.chain(0, 3, 0), 5);
        x.out(5, true);
        x.out(1, true);
        Check.due("1 is out", x.chain(0, 3, 1), 2);
    }

    private static void span() {
        CandleBar x = lamps(3);
        Check.fill(x, 0, Check.BYTES, 0, 1, 0, 40, 0);
        x.hear(0);
        long[] forth = {4, 9, 1521, 3721, 1681, 3481};
        long[] back = {9, 4, 3481, 1681, 3721, 1521};
        for (int what = 0; what < 3; what++) {
            for (int part = 0; part < 2; part++) {
                Check.due("forth " + what + part, x.span(0, 1, what, part), forth[2 * what + part]);
                Check.due("back " + what + part, x.span(1, 0, what, part), back[2 * what + part]);
                Check.due("to itself", x.span(2, 2, what, part), 1);
            }
        }
        Check.due("nothing joins", x.span(0, 2, 0, 0), NONE);
        Check.due("no light", x.span(0, 3, 0, 0), WRONG);
        Check.due("no light", x.span(-1, 0, 0, 0), WRONG);
        Check.due("no what", x.span(0, 2, 3, 0), WRONG);
        Check.due("no what", x.span(0, 2, -1, 0), WRONG);
        Check.due("no part", x.span(0, 2, 0, 2), WRONG);
        Check.due("no part", x.span(0, 2, 0, -1), WRONG);
    }

    private static void spanEnds() {
        CandleBar x = lamps(3);
        Check.fill(x, 0, Check.BYTES, 0, 1, 0, 1, 0, 1, 2, 0, 99, 0);
        x.hear(0);
        long[] first = {1, 9801, 0, 1, 1, 2401};
        long[] firstBack = {9801, 1, 2401, 1, 1, 0};
        long[] second = {9801, 1, 2401, 1, 1, 0};
        long[] secondBack = {1, 9801, 0, 1, 1, 2401};
        long[] both = {1, 1, 0, 1, 1, 0};
        for (int what = 0; what < 3; what++) {
            for (int part = 0; part < 2; part++) {
                int k = 2 * what + part;
                Check.due("place 1, " + k, x.span(0, 1, what, part), first[k]);
                Check.due("place 1 back, " + k, x.span(1, 0, what, part), firstBack[k]);
                Check.due("place 99, " + k, x.span(1, 2, what, part), second[k]);
                Check.due("place 99 back, " + k, x.span(2, 1, what, part), secondBack[k]);
                Check.due("both, " + k, x.span(0, 2, what, part), both[k]);
                Check.due("both back, " + k, x.span(2, 0, what, part), both[k]);
            }
        }
    }

    private static void spanOfFour() {
        CandleBar x = lamps(5);
        for (int k = 0; k < 4; k++) {
            Check.fill(x, 0, Check.BYTES, k, k + 1, 0, 98, 0);
            x.hear(0);
        }
        // 98 to 2 is 49 to 1; 97 to 3; 99 to 1: each squared, four times.
        long[] want = {33232930569601L, 1, 7837433594376961L, 6561, 9227446944279201L, 1};
        for (int what = 0; what < 3; what++) {
            for (int part = 0; part < 2; part++) {
                int k = 2 * what + part;
                Check.due("four, " + k, x.span(0, 4, what, part), want[k]);
            }
        }
    }
}
