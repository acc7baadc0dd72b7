/** Promises 32 to 37: gain, best, narrows, image, restore, count. */
public final class InspectorsTest {
    private static final int WRONG = Check.OF_SIGNED - 1;

    private InspectorsTest() {
    }

    public static void main(String[] args) {
        gainOnToldDays();
        gainByLot();
        gainRefused();
        bestDays();
        enough();
        bestRefused();
        narrows();
        image();
        imageTakesAll();
        count();
        Check.finish();
    }

    private static void gainOnToldDays() {
        CandleBar x = new CandleBar();
        Check.due("well on all", x.gain(127, 10003, 20, 127, false), 0);
        Check.due("ill on all, none told", x.gain(0, 10003, 20, 0, false), 49);
        Check.due("ill on day 6, told", x.gain(63, 10003, 20, 64, false), 7 - 20);
        Check.due("ill on day 6, day 5 told", x.gain(63, 10003, 20, 32, false), 7);
        Check.due("the greatest fine", x.gain(0, 999000, 9999, 127, false), 7 * 999 - 7 * 9999);
        Check.due("no fine", x.gain(0, 999000, 0, 127, false), 7 * 999);
        Check.due("the least costs", x.gain(0, 1000, 0, 127, false), 7);
        Check.due("bad just below good", x.gain(0, 999998, 0, 127, false), 7);
    }

    private static void gainByLot() {
        CandleBar x = new CandleBar();
        int[] ways = {1, 7, 21, 35, 35, 21, 7, 1};
        int[] found = {0, 1, 6, 15, 20, 15, 6, 1};
        for (int n = 0; n <= 7; n++) {
            Check.due("ill on two days, lot of " + n, x.gain(95 - 2, 10003, 20, n, true),
                    2 * (ways[n] * 7 - found[n] * 20));
            Check.due("well on all, lot of " + n, x.gain(127, 10003, 20, n, true), 0);
        }
        Check.due("the greatest", x.gain(0, 999000, 0, 3, true), 35 * 7 * 999);
        Check.due("the least", x.gain(0, 1000, 9999, 4, true), 35 * 7 - 20 * 7 * 9999);
    }

    private static void gainRefused() {
        CandleBar x = new CandleBar();
        Check.due("well below", x.gain(-1, 10003, 20, 1, false), WRONG);
        Check.due("well above", x.gain(128, 10003, 20, 1, false), WRONG);
        Check.due("costs below", x.gain(1, -1, 20, 1, false), WRONG);
        Check.due("costs above", x.gain(1, 1000000, 20, 1, false), WRONG);
        Check.due("bad as good", x.gain(1, 10010, 20, 1, false), WRONG);
        Check.due("bad above good", x.gain(1, 10011, 20, 1, false), WRONG);
        Check.due("good 0", x.gain(1, 0, 20, 1, false), WRONG);
        Check.due("fine below", x.gain(1, 10003, -1, 1, false), WRONG);
        Check.due("fine above", x.gain(1, 10003, 10000, 1, false), WRONG);
        Check.due("days below", x.gain(1, 10003, 20, -1, false), WRONG);
        Check.due("days above", x.gain(1, 10003, 20, 128, false), WRONG);
        Check.due("lot below", x.gain(1, 10003, 20, -1, true), WRONG);
        Check.due("lot above", x.gain(1, 10003, 20, 8, true), WRONG);
        Check.due("8 days told", x.gain(127, 10003, 20, 8, false), 0);
    }

    private static void bestDays() {
        CandleBar x = new CandleBar();
        Check.due("the told days", x.best(10003, 8, 85, 0), 85);
        Check.due("alike: the least bits", x.best(10003, 7, 85, 0), 0);
        Check.due("a small fine", x.best(10003, 6, 85, 0), 0);
        Check.due("all days", x.best(10003, 9999, 127, 0), 127);
        Check.due("no days", x.best(10003, 9999, 0, 0), 0);
    }

    private static void enough() {
        CandleBar x = new CandleBar();
        Check.due("49 by 9999", x.best(10003, 9999, 0, 1), 1);
        Check.due("49 by 49, just", x.best(10003, 49, 0, 1), 1);
        Check.due("49 by 48", x.best(10003, 48, 0, 1), 2);
        Check.due("49 by 7, just", x.best(10003, 7, 0, 1), 7);
        Check.due("49 by 8", x.best(10003, 8, 0, 1), 7);
        Check.due("49 by 6", x.best(10003, 6, 0, 1), -4);
        Check.due("no fine", x.best(10003, 0, 0, 1), -4);
    }

    private static void bestRefused() {
        CandleBar x = new CandleBar();
        Check.due("costs", x.best(10010, 5, 0, 0), -1);
        Check.due("costs below", x.best(-1, 5, 0, 0), -1);
        Check.due("costs above", x.best(1000000, 5, 0, 0), -1);
        Check.due("fine below", x.best(10003, -1, 0, 0), -1);
        Check.due("fine above", x.best(10003, 10000, 0, 1), -1);
        Check.due("days above", x.best(10003, 5, 128, 0), -1);
        Check.due("days below", x.best(10003, 5, -1, 0), -1);
        Check.due("days told for enough", x.best(10003, 5, 1, 1), -1);
        Check.due("no what", x.best(10003, 5, 0, 2), -1);
        Check.due("no what", x.best(10003, 5, 0, -1), -1);
        Check.due("wrong is ahead of none", x.best(10003, 0, 1, 1), -1);
    }

    private static void narrows() {
        CandleBar x = new CandleBar();
        Check.due("no lights", x.narrows(), -4);
        x.light(0, 1, 0, 0);
        Check.due("one light", x.narrows(), -4);
        for (int k = 1; k < 12; k++) {
            x.light(0, 1, 0, 0);
        }
        Check.due("nothing is joined", x.narrows(), 1);
        for (int k = 0; k < 5; k++) {
            x.match(5 + k, 6 + k, 0, 0);
        }
        Check.due("six are joined", x.narrows(), 5);
        x.match(3, 2, 0, 0);
        Check.due("six and two", x.narrows(), 205);
        for (int k = 0; k < 4; k++) {
            x.match(k, k + 1, 0, 0);
        }
        Check.due("five are joined and six are, 11 is alone", x.narrows(), 5);
        x.match(4, 5, 0, 0);
        Check.due("far more than four apart", x.narrows(), 11);
        x.match(11, 0, 0, 0);
        Check.due("all are joined", x.narrows(), -4);
        x.out(0, true);
        Check.due("one is out", x.narrows(), 6);
    }

    private static void image() {
        CandleBar x = new CandleBar();
        Check.due("there is none", x.restore(), -3);
        Check.due("of nothing", x.image(), 0);
        x.light(0, 1, 0, 0);
        Check.due("nothing again", x.restore(), 0);
        Check.due("no light", x.of(0, 0), -1);
        x.light(4, 9, 8, 7);
        Check.due("one light", x.image(), 1);
        x.light(0, 1, 0, 0);
        x.setting(0, 1);
        Check.due("one light again", x.restore(), 1);
        Check.due("its setting", x.of(0, 3), 7);
        x.setting(0, 2);
        Check.due("and again", x.restore(), 1);
        Check.due("its setting", x.of(0, 3), 7);
        Check.due("a light behind it", x.light(3, 1, 2, 3), 1);
        x.burn(1, 5);
        x.match(0, 1, 0, 0);
        x.out(0, true);
        x.restore();
        Check.due("another light behind it", x.light(5, 4, 5, 6), 1);
        Check.due("its hours", x.of(1, 4), 0);
        Check.due("another match", x.match(1, 0, 0, 0), 0);
        Check.due("it is not out", x.told(0, 5), 0);
    }

    private static void imageTakesAll() {
        CandleBar x = new CandleBar();
        x.light(2, 50, 10, 50);
        x.light(4, 60, 90, 100);
        x.damp(4);
        x.burn(1, 100);
        x.eye(0, 0, 10);
        x.eye(7, 0, 17);
        x.eye(3, 0, 11);
        x.eye(3, 1, 12);
        x.eye(3, 2, 13);
        x.match(0, 1, 2, 5);
        x.match(1, 0, 2, 6);
        x.out(1, true);
        x.standard(1);
        Check.write(x, 0, "g+d+50");
        x.rule(0);
        x.bill(2, 0, 300);
        long right = x.right(0);
        long worth = x.worth(0);
        long paid = x.paid(0);
        Check.due("taken", x.image(), 2);
        x.light(5, 1, 1, 1);
        x.damp(40);
        x.burn(1, 300);
        x.setting(0, 0);
        x.eye(0, 0, 110);
        x.eye(7, 0, 117);
        x.eye(3, 0, 111);
        x.eye(3, 1, 112);
        x.eye(3, 2, 3);
        x.match(2, 1, 0, 0);
        x.out(0, true);
        x.out(1, false);
        x.standard(2);
        x.bill(1, 1, 7);
        Check.write(x, 0, "7");
        x.rule(0);
        x.keep(1, 1, 2);
        Check.due("restored", x.restore(), 2);
        int[] counts = {2, 2, 1, 1, 100, 1};
        for (int what = 0; what < 6; what++) {
            Check.due("count(" + what + ")", x.count(what), counts[what]);
        }
        Check.due("right", x.right(0), right);
        Check.due("worth", x.worth(0), worth);
        Check.due("paid", x.paid(0), paid);
        Check.due("owed", x.owed(2), 0);
        Check.due("standard", x.standard(0), 1);
        Check.due("damp", x.damp(0), 4);
        Check.due("out", x.told(0, 5), 0);
        Check.due("out", x.told(1, 5), 1);
        Check.due("yellow", x.eye(0, 0, 1), 10);
        Check.due("yellow", x.eye(7, 0, 1), 17);
        Check.due("yellow", x.eye(3, 0, 1), 11);
        Check.due("blue", x.eye(3, 1, 1), 12);
        Check.due("lean", x.eye(3, 2, 1), 13);
        Check.due("a shelf stays: its light", x.gives(1), 1);
        Check.due("a shelf stays: its number", x.toss(1), 2);
        Check.dueElement(x, 0, 0, "55");
    }

    private static void count() {
        CandleBar x = new CandleBar();
        for (int k = 0; k < 5; k++) {
            x.light(0, 1, 0, 0);
        }
        x.burn(0, 3);
        x.burn(4, 4);
        x.match(0, 1, 0, 0);
        x.match(1, 2, 0, 0);
        x.match(2, 0, 0, 0);
        x.match(3, 4, 0, 0);
        x.standard(0);
        x.bill(0, 0, 1);
        int[] want = {5, 4, 0, 1, 7, 4};
        for (int what = 0; what < 6; what++) {
            Check.due("count(" + what + ")", x.count(what), want[what]);
        }
        x.out(0, true);
        Check.due("one out", x.count(2), 1);
        Check.due("still joined", x.count(5), 4);
        x.out(1, true);
        Check.due("two out", x.count(2), 2);
        Check.due("fewer joined", x.count(5), 2);
        Check.due("no what", x.count(6), -1);
        Check.due("no what", x.count(-1), -1);
    }
}
