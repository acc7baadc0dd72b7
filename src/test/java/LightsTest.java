/** Promises 1 to 6: a new object, light, setting, burn, damp, of. */
public final class LightsTest {
    private LightsTest() {
    }

    public static void main(String[] args) {
        newObject();
        light();
        lightRefused();
        setting();
        burn();
        damp();
        ofPlain();
        givesOfEachKind();
        givesOfAgedOnes();
        givesIsHeld();
        wandersOfEachKind();
        Check.finish();
    }

    private static void newObject() {
        CandleBar x = new CandleBar();
        for (int what = 0; what <= 5; what++) {
            Check.due("count of a new object", x.count(what), 0);
        }
        Check.due("no light yet", x.of(0, 0), -1);
        Check.due("no match yet", x.told(0, 0), -1);
        Check.due("no image yet", x.restore(), -3);
        Check.due("nothing on shelf 0", x.gives(0), -11);
        Check.due("nothing on shelf 7", x.gives(7), -11);
        Check.due("damp at first", x.damp(50), 0);
        for (int eye = 0; eye < 8; eye++) {
            Check.due("yellow at first", x.eye(eye, 0, 1), 100);
            Check.due("blue at first", x.eye(eye, 1, 1), 100);
            Check.due("lean at first", x.eye(eye, 2, 1), 0);
        }
    }

    private static void light() {
        CandleBar x = new CandleBar();
        for (int k = 0; k < 12; k++) {
            int greatest = k % 2;
            Check.due("light " + k, x.light(k % 8, greatest == 1 ? 9999 : 1, greatest * 100, greatest * 200), k);
        }
        Check.due("a thirteenth", x.light(0, 1, 0, 0), -2);
        Check.due("a thirteenth of no kind", x.light(8, 1, 0, 0), -1);
        Check.due("still twelve", x.count(0), 12);
        for (int k = 0; k < 12; k++) {
            int greatest = k % 2;
            Check.due("kind", x.of(k, 0), k % 8);
            Check.due("strength", x.of(k, 1), greatest == 1 ? 9999 : 1);
            Check.due("yellow", x.of(k, 2), greatest * 100);
            Check.due("setting", x.of(k, 3), greatest * 200);
            Check.due("hours", x.of(k, 4), 0);
        }
    }

    private static void lightRefused() {
        CandleBar x = new CandleBar();
        int[][] wrong = {
            {-1, 1, 0, 0}, {8, 1, 0, 0}, {0, 0, 0, 0}, {0, 10000, 0, 0}, {0, 1, -1, 0}, {0, 1, 101, 0},
            {0, 1, 0, -1}, {0, 1, 0, 201}, {Integer.MIN_VALUE, 1, 0, 0}, {0, Integer.MAX_VALUE, 0, 0},
        };
        for (int[] w : wrong) {
            Check.due("a light not as told", x.light(w[0], w[1], w[2], w[3]), -1);
        }
        Check.due("none came", x.count(0), 0);
    }

    private static void setting() {
        CandleBar x = new CandleBar();
        x.light(0, 1, 0, 7);
        Check.due("setting to the greatest", x.setting(0, 200), 7);
        Check.due("setting to the least", x.setting(0, 0), 200);
        Check.due("setting below", x.setting(0, -1), -1);
        Check.due("setting above", x.setting(0, 201), -1);
        Check.due("setting of no light", x.setting(1, 5), -1);
        Check.due("setting of light -1", x.setting(-1, 5), -1);
        Check.due("setting unchanged", x.of(0, 3), 0);
    }

    private static void burn() {
        CandleBar x = new CandleBar();
        x.light(0, 1, 0, 7);
        x.light(0, 1, 0, 7);
        Check.due("burn least", x.burn(0, 1), 1);
        Check.due("burn 0", x.burn(0, 0), -1);
        Check.due("burn 1000", x.burn(0, 1000), -1);
        Check.due("burn of no light", x.burn(2, 1), -1);
        Check.due("burn of light -1", x.burn(-1, 1), -1);
        Check.due("hours unchanged", x.of(0, 4), 1);
        for (int k = 1; k <= 100; k++) {
            Check.due("burn greatest", x.burn(0, 999), 1 + 999 * k);
        }
        Check.due("one above", x.burn(0, 99), -2);
        Check.due("wrong is ahead of no room", x.burn(0, 1000), -1);
        Check.due("up to the last", x.burn(0, 97), 99998);
        Check.due("the last", x.burn(0, 1), 99999);
        Check.due("no more", x.burn(0, 1), -2);
        Check.due("the other burns by itself", x.burn(1, 5), 5);
        Check.due("all hours", x.count(4), 100004);
    }

    private static void damp() {
        CandleBar x = new CandleBar();
        Check.due("greatest", x.damp(50), 0);
        Check.due("above", x.damp(51), -1);
        Check.due("below", x.damp(-1), -1);
        Check.due("least", x.damp(0), 50);
        Check.due("was", x.damp(9), 0);
    }

    private static void ofPlain() {
        CandleBar x = new CandleBar();
        x.light(3, 44, 55, 66);
        x.burn(0, 77);
        int[] want = {3, 44, 55, 66, 77, 73, 6};
        for (int what = 0; what <= 6; what++) {
            Check.due("of(0, " + what + ")", x.of(0, what), want[what]);
        }
        Check.due("of(0, 7)", x.of(0, 7), -1);
        Check.due("of(0, -1)", x.of(0, -1), -1);
        Check.due("of(1, 0)", x.of(1, 0), -1);
        Check.due("of(-1, 0)", x.of(-1, 0), -1);
        Check.due("of(12, 0)", x.of(12, 0), -1);
    }

    private static void givesOfEachKind() {
        CandleBar x = new CandleBar();
        int[] want = {101, 61, 266, 174 - 1, 73 - 12, 101 - 1, 101, 73 - 12 - 6};
        x.damp(1);
        for (int kind = 0; kind < 8; kind++) {
            x.light(kind, 101, 50, 73);
            x.burn(kind, 129);
            Check.due("gives of kind " + kind, x.of(kind, 5), want[kind]);
        }
    }

    private static void givesOfAgedOnes() {
        CandleBar x = new CandleBar();
        x.light(4, 100, 50, 100);
        x.light(7, 100, 50, 100);
        int[] hours = {9, 1, 9, 1, 19, 60, 20};
        int[] glowing = {100, 99, 99, 98, 97, 91, 89};
        int[] kept = {100, 99, 99, 97, 96, 87, 84};
        for (int k = 0; k < hours.length; k++) {
            x.burn(0, hours[k]);
            x.burn(1, hours[k]);
            Check.due("a glowing one, " + x.of(0, 4) + " hours", x.of(0, 5), glowing[k]);
            Check.due("a kept one, " + x.of(1, 4) + " hours", x.of(1, 5), kept[k]);
        }
    }

    private static void givesIsHeld() {
        CandleBar x = new CandleBar();
        x.damp(50);
        x.light(1, 1, 0, 119);
        x.light(2, 1, 0, 0);
        x.light(3, 1, 0, 0);
        x.light(4, 1, 0, 0);
        x.light(5, 50, 0, 0);
        x.light(5, 52, 0, 0);
        x.light(7, 100, 0, 10);
        for (int k = 0; k < 5; k++) {
            Check.due("held to 1: light " + k, x.of(k, 5), 1);
        }
        Check.due("not held", x.of(5, 5), 2);
        x.burn(6, 99);
        Check.due("a kept one: 10 less 9 less 4", x.of(6, 5), 1);
        x.light(7, 9999, 0, 200);
        x.light(3, 9999, 0, 200);
        Check.due("a kept one's greatest", x.of(7, 5), 19998);
        Check.due("a gas one's greatest", x.of(8, 5), 29997 - 50);
    }

    private static void wandersOfEachKind() {
        CandleBar x = new CandleBar();
        x.damp(11);
        int[] want = {3, 14, 3 + 33, 6, 1, 7, 0, 1};
        for (int kind = 0; kind < 8; kind++) {
            x.light(kind, 100, 50, 73);
            Check.due("wanders of kind " + kind, x.of(kind, 6), want[kind]);
        }
        x.setting(2, 0);
        Check.due("vinegar from below", x.of(2, 6), 43);
        x.burn(7, 199);
        x.burn(4, 199);
        Check.due("a kept one that burnt", x.of(7, 6), 2);
        Check.due("a glowing one that burnt", x.of(4, 6), 1);
        x.burn(7, 1);
        Check.due("just 200 hours", x.of(7, 6), 3);
    }
}
