/** Promises 16 to 21: laws, parts, show, disagree, mean, stands. */
public final class LawsTest {
    private LawsTest() {
    }

    public static void main(String[] args) {
        laws();
        lawsFollowTheLights();
        parts();
        show();
        disagree();
        mean();
        stands();
        Check.finish();
    }

    /** Two LIGHTS of one strength, all yellow and all blue, and one of both. */
    private static CandleBar threeLamps() {
        CandleBar x = new CandleBar();
        x.light(0, 100, 100, 1);
        x.light(0, 100, 0, 1);
        x.light(0, 100, 50, 1);
        return x;
    }

    private static void laws() {
        CandleBar x = threeLamps();
        Check.due("all are let", x.laws(0, 0, -1), 400);
        Check.due("the first", x.laws(0, 0, 0), 10010);
        Check.due("the second", x.laws(0, 0, 1), 10020);
        Check.due("the twentieth", x.laws(0, 0, 19), 10200);
        Check.due("the next", x.laws(0, 0, 20), 20010);
        Check.due("the last", x.laws(0, 0, 399), 200200);
        Check.due("not so many", x.laws(0, 0, 400), -4);
        Check.due("not so many", x.laws(0, 0, Integer.MAX_VALUE), -4);
        Check.due("no place below -1", x.laws(0, 0, -2), -1);
        Check.due("the last eye", x.laws(7, 50, -1), 400);
        Check.due("no eye", x.laws(8, 0, -1), -1);
        Check.due("no eye", x.laws(-1, 0, -1), -1);
        Check.due("no slip", x.laws(0, 51, -1), -1);
        Check.due("no slip", x.laws(0, -1, -1), -1);
        x.match(0, 1, 3, 0);
        Check.due("yellow as blue", x.laws(3, 0, -1), 20);
        for (int i = 0; i < 20; i++) {
            Check.due("yellow as blue, " + i, x.laws(3, 0, i), 10010 * (i + 1));
        }
        Check.due("another eye's match does not matter", x.laws(4, 0, -1), 400);
        Check.due("a slip that lets all", x.laws(3, 50, -1), 400);
        Check.due("a slip of 32 lets all", x.laws(3, 32, -1), 400);
        Check.due("10 to 200 and 200 to 10 are 32 off", x.laws(3, 31, -1), 398);
        x.eye(3, 2, 20);
        Check.due("the lean does not matter in dim 0", x.laws(3, 0, -1), 20);
        x.out(0, true);
        Check.due("out", x.laws(3, 0, -1), 400);
    }

    private static void lawsFollowTheLights() {
        CandleBar x = new CandleBar();
        x.light(4, 100, 100, 100);
        x.light(0, 100, 0, 100);
        x.match(0, 1, 0, 0);
        Check.due("one to one", x.laws(0, 0, 0), 10010);
        x.setting(0, 200);
        Check.due("twice the yellow light: half the weight", x.laws(0, 0, 0), 10020);
        Check.due("ten of them", x.laws(0, 0, -1), 10);
        x.setting(0, 1);
        Check.due("a hundredth of it: no law", x.laws(0, 0, -1), 0);
        Check.due("no first", x.laws(0, 0, 0), -4);
    }

    private static void parts() {
        CandleBar x = threeLamps();
        Check.due("all laws: places 18 to 82", x.parts(0, 0, 0, 1), 64);
        Check.due("the other way", x.parts(0, 0, 1, 0), 64);
        x.match(0, 1, 0, 0);
        Check.due("one place", x.parts(0, 0, 0, 1), 0);
        Check.due("a slip of 2", x.parts(0, 2, 0, 1), 4);
        Check.due("one twice", x.parts(0, 0, 1, 1), -1);
        Check.due("no light", x.parts(0, 0, 0, 3), -1);
        Check.due("no light", x.parts(0, 0, -1, 0), -1);
        Check.due("the last eye", x.parts(7, 50, 0, 1), 64);
        Check.due("no eye", x.parts(8, 0, 0, 1), -1);
        Check.due("no slip", x.parts(0, 51, 0, 1), -1);
        Check.due("no slip", x.parts(0, -1, 0, 1), -1);
        Check.fill(x, 0, Check.BYTES, 0, 1, 0, 1, 0);
        x.hear(0);
        Check.due("no law", x.parts(0, 0, 0, 1), -4);
        Check.due("wrong is ahead of none", x.parts(0, 0, 1, 1), -1);
    }

    private static void show() {
        CandleBar x = new CandleBar();
        Check.due("no lights", x.show(0, 0), -4);
        x.light(0, 100, 40, 1);
        Check.due("one light", x.show(0, 0), -4);
        x.light(0, 100, 40, 1);
        Check.due("two that nothing parts", x.show(0, 0), 1);
        x.light(0, 100, 100, 1);
        x.light(0, 100, 0, 1);
        Check.due("yellow and blue", x.show(0, 0), 203);
        x.light(0, 100, 0, 1);
        Check.due("of several the first by a, then b", x.show(0, 0), 203);
        Check.due("no eye", x.show(8, 0), -1);
        Check.due("no eye", x.show(-1, 0), -1);
        Check.due("no slip", x.show(0, 51), -1);
        Check.due("no slip", x.show(0, -1), -1);
        Check.fill(x, 0, Check.BYTES, 2, 3, 7, 99, 0);
        x.hear(0);
        Check.due("no law", x.show(7, 0), -4);
        Check.due("another eye", x.show(6, 0), 203);
    }

    private static void disagree() {
        CandleBar x = threeLamps();
        x.eye(1, 0, 200);
        x.eye(1, 1, 50);
        int wrong = Check.OF_SIGNED - 1;
        Check.due("50 less 67", x.disagree(0, 1, 0, 1, 0), -17);
        Check.due("67 less 50", x.disagree(1, 0, 0, 1, 0), 17);
        Check.due("with itself", x.disagree(1, 1, 0, 1, 0), 0);
        x.eye(0, 2, 11);
        Check.due("the first leans, 1 to 199: 7 less 50", x.disagree(0, 2, 0, 1, 9), -43);
        Check.due("one light twice", x.disagree(0, 1, 1, 1, 0), wrong);
        Check.due("no light", x.disagree(0, 1, 0, 3, 0), wrong);
        Check.due("no light", x.disagree(0, 1, -1, 0, 0), wrong);
        Check.due("no first eye", x.disagree(8, 1, 0, 1, 0), wrong);
        Check.due("no second eye", x.disagree(0, -1, 0, 1, 0), wrong);
        Check.due("no dim", x.disagree(0, 1, 0, 1, 10), wrong);
        Check.due("no dim", x.disagree(0, 1, 0, 1, -1), wrong);
    }

    private static void mean() {
        CandleBar x = new CandleBar();
        x.eye(7, 0, 1);
        x.eye(7, 1, 200);
        x.eye(7, 2, 20);
        Check.due("one eye, yellow", x.mean(128, 0), 1);
        Check.due("one eye, blue", x.mean(128, 1), 200);
        Check.due("one eye, lean", x.mean(128, 2), 20);
        Check.due("two eyes, cut", x.mean(129, 0), 50);
        Check.due("all eyes, yellow", x.mean(255, 0), 701 / 8);
        Check.due("all eyes, blue", x.mean(255, 1), 900 / 8);
        Check.due("all eyes, lean", x.mean(255, 2), 2);
        Check.due("the first eye", x.mean(1, 0), 100);
        Check.due("no eyes", x.mean(0, 0), -1);
        Check.due("more than all", x.mean(256, 0), -1);
        Check.due("below", x.mean(-1, 0), -1);
        Check.due("no what", x.mean(1, 3), -1);
        Check.due("no what", x.mean(1, -1), -1);
    }

    private static void stands() {
        CandleBar x = threeLamps();
        Check.due("all alike", x.stands(255, 0, 1), 255);
        Check.due("of the set alone", x.stands(6, 0, 1), 6);
        x.eye(0, 0, 104);
        x.eye(1, 0, 96);
        Check.due("the mean is 100; both are 1 off at most", x.stands(3, 0, 1), 3);
        x.eye(0, 0, 113);
        x.eye(1, 0, 87);
        Check.due("2 off", x.stands(7, 0, 1), 4);
        Check.due("one stands for itself", x.stands(1, 0, 1), 1);
        x.eye(0, 2, 20);
        Check.due("the lean does not matter in dim 0", x.stands(1, 0, 1), 1);
        Check.due("no eyes", x.stands(0, 0, 1), -1);
        Check.due("more than all", x.stands(256, 0, 1), -1);
        Check.due("one light twice", x.stands(1, 1, 1), -1);
        Check.due("no light", x.stands(1, 0, 3), -1);
        Check.due("no light", x.stands(1, -1, 0), -1);
    }
}
