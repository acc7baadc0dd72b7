/** Promises 38 to 44: keep, row, put, element, copy, gives, toss. */
public final class ShelvesTest {
    private ShelvesTest() {
    }

    public static void main(String[] args) {
        keep();
        row();
        put();
        element();
        copy();
        copyWithinOne();
        copyRefused();
        gives();
        toss();
        Check.finish();
    }

    private static void keep() {
        CandleBar x = new CandleBar();
        Check.due("no such light", x.keep(0, 1, 0), -1);
        x.light(0, 12, 0, 0);
        Check.due("light 0", x.keep(0, 1, 0), 0);
        Check.due("it is there", x.gives(0), 12);
        Check.due("no such light", x.keep(0, 1, 1), -1);
        Check.due("no such light", x.keep(0, 1, -1), -1);
        Check.due("no such what", x.keep(0, 2, 0), -1);
        Check.due("no such what", x.keep(0, -1, 0), -1);
        Check.due("no such shelf", x.keep(8, 1, 0), -1);
        Check.due("no such shelf", x.keep(-1, 0, 0), -1);
        Check.due("it is there still", x.gives(0), 12);
        Check.due("nothing; k does not matter", x.keep(0, 0, -77), 0);
        Check.due("it is gone", x.gives(0), -11);
        Check.due("nothing over nothing", x.keep(7, 0, 99), 0);
        x.row(7, 0, 1);
        Check.due("a light over a row", x.keep(7, 1, 0), 0);
        Check.due("a light", x.put(7, 0, 0), -12);
    }

    private static void row() {
        CandleBar x = new CandleBar();
        for (int sort = 0; sort < 3; sort++) {
            Check.due("the greatest", x.row(0, sort, 100), 0);
            Check.dueElement(x, 0, 99, "0");
            Check.due("the first", x.put(0, 0, 5), 0);
            Check.due("the last", x.put(0, 99, 5), 0);
            Check.due("the least", x.row(0, sort, 0), 0);
            Check.due("no place", x.put(0, 0, 5), -13);
            Check.due("again", x.row(0, sort, 100), 0);
            Check.dueElement(x, 0, 0, "0");
            Check.dueElement(x, 0, 99, "0");
        }
        x.put(0, 3, 9);
        Check.due("above", x.row(0, 0, 101), -1);
        Check.due("below", x.row(0, 0, -1), -14);
        Check.due("no sort", x.row(0, 3, 1), -1);
        Check.due("no sort", x.row(0, -1, 1), -1);
        Check.due("no shelf", x.row(8, 0, 1), -1);
        Check.due("no shelf", x.row(-1, 0, 1), -1);
        Check.due("no shelf is ahead of a size below 0", x.row(8, 0, -1), -1);
        Check.due("no sort is ahead of a size below 0", x.row(0, 3, -1), -1);
        Check.due("below", x.row(0, 0, Integer.MIN_VALUE), -14);
        Check.dueElement(x, 0, 3, "9");
    }

    private static void put() {
        CandleBar x = new CandleBar();
        x.light(0, 1, 0, 0);
        x.keep(1, 1, 0);
        Check.due("no shelf", x.put(8, 0, 0), -1);
        Check.due("no shelf", x.put(-1, 0, 0), -1);
        Check.due("nothing", x.put(0, 0, 0), -11);
        Check.due("a light", x.put(1, 0, 0), -12);
        x.row(2, 0, 3);
        Check.due("no place", x.put(2, 3, 0), -13);
        Check.due("no place", x.put(2, -1, 0), -13);
        int[] in = {127, 128, 255, 256, -129, 65535, 32768, 70000, Integer.MIN_VALUE, Integer.MAX_VALUE};
        for (int v : in) {
            for (int sort = 0; sort < 3; sort++) {
                x.row(2, sort, 1);
                Check.due("put", x.put(2, 0, v), 0);
                long want = sort == 0 ? (byte) v : sort == 1 ? (short) v : v;
                Check.dueElement(x, 2, 0, Long.toString(want));
            }
        }
    }

    private static void element() {
        CandleBar x = new CandleBar();
        x.light(0, 1, 0, 0);
        x.keep(1, 1, 0);
        Check.dueElement(x, -1, 0, "IllegalArgumentException");
        Check.dueElement(x, 8, -1, "IllegalArgumentException");
        Check.dueElement(x, 0, 0, "IllegalStateException");
        Check.dueElement(x, 1, 0, "IllegalStateException");
        Check.fill(x, 2, Check.INTS, 5, -6);
        Check.dueElement(x, 2, 0, "5");
        Check.dueElement(x, 2, 1, "-6");
        Check.dueElement(x, 2, 2, "IllegalStateException");
        Check.dueElement(x, 2, -1, "IllegalStateException");
    }

    private static void copy() {
        CandleBar x = new CandleBar();
        Check.fill(x, 0, Check.SHORTS, 1, 2, 3, 4);
        Check.fill(x, 1, Check.SHORTS, 5, 6, 7);
        Check.due("two", x.copy(0, 1, 1, 1, 2), 2);
        String[] want = {"5", "2", "3"};
        for (int i = 0; i < 3; i++) {
            Check.dueElement(x, 1, i, want[i]);
        }
        Check.due("all", x.copy(1, 0, 0, 1, 3), 3);
        String[] wantAll = {"1", "5", "2", "3"};
        for (int i = 0; i < 4; i++) {
            Check.dueElement(x, 0, i, wantAll[i]);
        }
        Check.due("none", x.copy(0, 0, 1, 0, 0), 0);
        Check.due("none from the end", x.copy(0, 4, 1, 3, 0), 0);
        Check.fill(x, 7, Check.SHORTS, 8);
        Check.due("to the last shelf", x.copy(0, 1, 7, 0, 1), 1);
        Check.dueElement(x, 7, 0, "5");
        Check.due("from the last shelf", x.copy(7, 0, 0, 0, 1), 1);
        Check.dueElement(x, 0, 0, "5");
    }

    private static void copyWithinOne() {
        CandleBar x = new CandleBar();
        Check.fill(x, 0, Check.BYTES, 1, 2, 3, 4, 5);
        Check.due("forth", x.copy(0, 0, 0, 1, 4), 4);
        String[] forth = {"1", "1", "2", "3", "4"};
        for (int i = 0; i < 5; i++) {
            Check.dueElement(x, 0, i, forth[i]);
        }
        Check.due("back", x.copy(0, 2, 0, 0, 3), 3);
        String[] back = {"2", "3", "4", "3", "4"};
        for (int i = 0; i < 5; i++) {
            Check.dueElement(x, 0, i, back[i]);
        }
    }

    private static void copyRefused() {
        CandleBar x = new CandleBar();
        x.light(0, 1, 0, 0);
        x.row(0, 0, 3);
        x.row(1, 0, 2);
        x.row(2, 1, 3);
        x.keep(3, 1, 0);
        Check.due("no shelf", x.copy(-1, 0, 1, 0, 1), -1);
        Check.due("no shelf", x.copy(8, 0, 1, 0, 1), -1);
        Check.due("no shelf", x.copy(0, 0, 8, 0, 1), -1);
        Check.due("no shelf", x.copy(0, 0, -1, 0, 1), -1);
        Check.due("no shelf is ahead of nothing", x.copy(4, 0, 8, 0, 1), -1);
        Check.due("nothing", x.copy(4, 0, 1, 0, 1), -11);
        Check.due("nothing", x.copy(0, 0, 4, 0, 1), -11);
        Check.due("nothing is ahead of a light", x.copy(3, 0, 4, 0, 1), -11);
        Check.due("a light", x.copy(3, 0, 1, 0, 1), -12);
        Check.due("a light", x.copy(0, 0, 3, 0, 1), -12);
        Check.due("two lights", x.copy(3, 0, 3, 0, 1), -12);
        Check.due("two sorts", x.copy(0, 0, 2, 0, 1), -12);
        Check.due("another sort is ahead of no place", x.copy(0, 9, 2, 0, 1), -12);
        int[][] wrong = {
            {0, 0, -1}, {0, 0, 3}, {-1, 0, 1}, {0, -1, 1}, {3, 0, 1}, {0, 2, 1}, {2, 0, 2}, {0, 1, 2}, {4, 0, 0}, {0, 3, 0},
            {1, 0, Integer.MAX_VALUE}, {Integer.MAX_VALUE, 0, 1}, {0, Integer.MAX_VALUE, 1}, {0, 0, Integer.MIN_VALUE},
            {Integer.MIN_VALUE, 0, 1}, {Integer.MAX_VALUE, Integer.MAX_VALUE, Integer.MAX_VALUE},
        };
        for (int[] w : wrong) {
            Check.due("no such place", x.copy(0, w[0], 1, w[1], w[2]), -13);
        }
    }

    private static void gives() {
        CandleBar x = new CandleBar();
        x.light(3, 100, 50, 50);
        x.light(4, 100, 50, 50);
        x.keep(0, 1, 0);
        x.keep(1, 1, 1);
        Check.due("gas", x.gives(0), 150);
        x.setting(0, 100);
        x.burn(1, 100);
        Check.due("as it was then", x.gives(0), 150);
        Check.due("as it was then", x.gives(1), 50);
        x.damp(9);
        Check.due("damp as it is now", x.gives(0), 141);
        x.row(2, 0, 1);
        Check.due("a row", x.gives(2), -12);
        Check.due("nothing", x.gives(3), -11);
        Check.due("no shelf", x.gives(8), -1);
        Check.due("no shelf", x.gives(-1), -1);
    }

    private static void toss() {
        CandleBar x = new CandleBar();
        int[] want = {0, 1, 2, 233, 4, 5, -15, 107};
        for (int kind = 0; kind < 8; kind++) {
            x.light(kind, 100, 50, 33);
            x.keep(kind, 1, kind);
            Check.due("of kind " + kind, x.toss(kind), want[kind]);
            x.setting(kind, 0);
            Check.due("as it was then", x.toss(kind), want[kind]);
            x.keep(kind, 1, kind);
            Check.due("with setting 0", x.toss(kind), -15);
        }
        for (int k = 8; k < 12; k++) {
            x.light(7, 1, 0, 1);
        }
        x.keep(0, 1, 11);
        Check.due("the last light", x.toss(0), 111);
        x.setting(3, 200);
        x.keep(1, 1, 3);
        Check.due("the greatest setting", x.toss(1), 400);
        x.row(2, 0, 1);
        Check.due("a row", x.toss(2), -12);
        x.keep(3, 0, 0);
        Check.due("nothing", x.toss(3), -11);
        Check.due("no shelf", x.toss(8), -1);
        Check.due("no shelf", x.toss(-1), -1);
    }
}
