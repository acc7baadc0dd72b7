/** The boundaries that the document names for LAWS of EYES: Terms 3, promises 16 to 21. */
public final class BoundsOfLawsTest {
    private static final int MIN = Integer.MIN_VALUE;
    private static final int MAX = Integer.MAX_VALUE;
    private static final int SIGNED_WRONG = -1000000001;

    private BoundsOfLawsTest() {
    }

    public static void main(String[] args) {
        termsOfLaws();
        termsOfEyes();
        promisesOfLaws();
        promisesOfEyes();
        Document.finish(16, 21);
    }

    private static void termsOfLaws() {
        String part = "Terms 3";
        Document.says(part, "what it may weigh yellow and blue, 10, 20, .. 200 each", BoundsOfLawsTest::allLaws);
        Document.says(part, "is at the place where they would be ALIKE,", BoundsOfLawsTest::justAtThePlace);
        Document.says(part, "or no more than a told SLIP (0 .. 50) off.", BoundsOfLawsTest::slips);
        Document.says(part, "each of its MATCHES", BoundsOfLawsTest::eachOfItsMatches);
        Document.says(part, "(not OUT, in DIM 0,", BoundsOfLawsTest::notOutInDim0);
        Document.says(part, "LIGHTS as they are now, its lean as it is)", BoundsOfLawsTest::lightsAsTheyAreNow);
        Document.says(part, "the greatest place less the least at which they would be ALIKE by LAWS that are LET",
                BoundsOfLawsTest::greatestLessLeast);
        Document.says(part, "the pair a below b that PARTS most; of several the first by a, then b.",
                BoundsOfLawsTest::firstPair);
    }

    private static void termsOfEyes() {
        String part = "Terms 3";
        Document.says(part, "place by the first less place by the second.", BoundsOfLawsTest::disagreeEitherWay);
        Document.says(part, "means of what they weigh, of leans, cut", BoundsOfLawsTest::meansAreCut);
        Document.says(part, "of whom place for two LIGHTS it is no more than 1 off", BoundsOfLawsTest::oneOff);
        Document.says(part, "in DIM 0: bits.", BoundsOfLawsTest::standsInDim0);
    }

    private static void promisesOfLaws() {
        Document.says("Promise 16", "How many LAWS of an EYE are LET with a SLIP (i -1),", BoundsOfLawsTest::howManyLaws);
        Document.says("Promise 16", "the i-th as 1000 times yellow, and blue (by yellow, then blue);",
                BoundsOfLawsTest::lawsInOrder);
        Document.says("Promise 16", "-4.", BoundsOfLawsTest::lawsNotSoMany);
        Document.says("Promise 16", "-1.", BoundsOfLawsTest::lawsNotAsTold);
        Document.says("Promise 17", "-4: none is LET.", BoundsOfLawsTest::partsOfNone);
        Document.says("Promise 17", "-1.", BoundsOfLawsTest::partsNotAsTold);
        Document.says("Promise 18", "The pair that PARTS most: 100 times a, and b;", BoundsOfLawsTest::showOfTheLastPair);
        Document.says("Promise 18", "-4: fewer than two LIGHTS,", BoundsOfLawsTest::showOfFew);
        Document.says("Promise 18", "no LAW.", BoundsOfLawsTest::showOfNoLaw);
        Document.says("Promise 18", "-1.", BoundsOfLawsTest::showNotAsTold);
    }

    private static void promisesOfEyes() {
        Document.says("Promise 19", "DISAGREE.", BoundsOfLawsTest::disagreeAtItsEnds);
        Document.says("Promise 19", "-1000000001.", BoundsOfLawsTest::disagreeNotAsTold);
        Document.says("Promise 20", "MEAN EYE of a set (1 .. 255): yellow (what 0), blue (1), lean (2).",
                BoundsOfLawsTest::meanAtItsEnds);
        Document.says("Promise 20", "-1.", BoundsOfLawsTest::meanNotAsTold);
        Document.says("Promise 21", "STANDS for, by a set and two LIGHTS.", BoundsOfLawsTest::standsAtItsEnds);
        Document.says("Promise 21", "-1.", BoundsOfLawsTest::standsNotAsTold);
    }

    /** LIGHT 0 is all yellow, 1 all blue, 2 half of each; all of one STRENGTH. */
    private static CandleBar colours() {
        CandleBar x = new CandleBar();
        x.light(0, 100, 100, 1);
        x.light(0, 100, 0, 1);
        x.light(0, 100, 50, 1);
        return x;
    }

    // ---- LAWS

    private static void allLaws() {
        CandleBar x = colours();
        Check.due("20 times 20", x.laws(0, 0, -1), 400);
        for (int i = 0; i < 400; i++) {
            Check.due("law " + i, x.laws(0, 0, i), 1000 * (10 * (i / 20) + 10) + 10 * (i % 20) + 10);
        }
    }

    private static void justAtThePlace() {
        CandleBar x = colours();
        Check.due("told at 50", Check.tell(x, 0, 1, 0, 50, 0), 1);
        Check.due("as much yellow as blue", x.laws(0, 0, -1), 20);
        for (int i = 0; i < 20; i++) {
            Check.due("law " + i, x.laws(0, 0, i), 10010 * (i + 1));
        }
        x = Check.lamps(2500, 2602, 2603);
        Check.tell(x, 0, 1, 0, 50, 0);
        Check.due("just nearer to 50 than to 49", x.laws(0, 0, -1), 400);
        Check.tell(x, 0, 2, 0, 50, 0);
        Check.due("just nearer to 49", x.laws(0, 0, -1), 0);
    }

    /** Two LIGHTS of one YELLOW are ALIKE at one place by all LAWS, so that all are LET, or none. */
    private static void slips() {
        for (int place = 1; place <= 99; place++) {
            CandleBar x = Check.lamps(7, 7);
            Check.tell(x, 0, 1, 0, place, 0);
            int off = Math.abs(place - 50);
            Check.due("told at " + place + ", slip " + off, x.laws(0, off, -1), 400);
            Check.due("told at " + place + ", slip 50", x.laws(0, 50, -1), 400);
            Check.due("told at " + place + ", slip " + (off - 1), x.laws(0, Math.max(0, off - 1), -1), off == 0 ? 400 : 0);
        }
        CandleBar x = Check.lamps(1, 9999);
        Check.tell(x, 0, 1, 0, 51, 0);
        Check.tell(x, 1, 0, 1, 49, 0);
        Check.due("1 told at 51, slip 50", x.laws(0, 50, -1), 400);
        Check.due("1 told at 51, slip 49", x.laws(0, 49, -1), 0);
        Check.due("99 told at 49, slip 50", x.laws(1, 50, -1), 400);
        Check.due("99 told at 49, slip 49", x.laws(1, 49, -1), 0);
        Check.tell(x, 0, 1, 0, 52, 0);
        Check.tell(x, 1, 0, 1, 48, 0);
        Check.due("1 told at 52, slip 50", x.laws(0, 50, -1), 0);
        Check.due("99 told at 48, slip 50", x.laws(1, 50, -1), 0);
        x = Check.lamps(1);
        x.light(3, 9999, 50, 200);
        Check.tell(x, 0, 1, 0, 1, 0);
        Check.tell(x, 1, 0, 1, 99, 0);
        Check.due("1 to 29997 at 1", x.laws(0, 0, -1), 400);
        Check.due("29997 to 1 at 99", x.laws(1, 0, -1), 400);
    }

    private static void eachOfItsMatches() {
        CandleBar x = colours();
        Check.tell(x, 0, 1, 5, 50, 0);
        Check.due("one match", x.laws(5, 0, -1), 20);
        Check.due("of eye 4 there are none", x.laws(4, 0, -1), 400);
        Check.due("nor of eye 6", x.laws(6, 0, -1), 400);
        // 1 to 2: 41 squared to 59 squared is .483, 42 to 58 .524; so yellow half as much as blue.
        Check.tell(x, 0, 1, 5, 41, 0);
        Check.due("two that no law is alike to", x.laws(5, 0, -1), 0);
        Check.due("a slip of 5 on both sides", x.laws(5, 5, -1) > 0 ? 1 : 0, 1);
        for (int k = 2; k < 30; k++) {
            Check.due("up to 30", x.match(0, 2, 4, 0), k);
        }
        Check.due("the last of 30 is out", x.out(29, true), 1);
        Check.due("of eye 4: as much yellow as blue", x.laws(4, 0, 0), 10010);
        Check.due("of eye 5 as before", x.laws(5, 0, -1), 0);
    }

    private static void notOutInDim0() {
        CandleBar x = colours();
        Check.tell(x, 0, 1, 0, 50, 0);
        Check.tell(x, 0, 1, 0, 10, 0);
        Check.due("50 and 10", x.laws(0, 0, -1), 0);
        x.out(1, true);
        Check.due("50", x.laws(0, 0, -1), 20);
        x.out(0, true);
        Check.due("all are out", x.laws(0, 0, -1), 400);
        x.out(0, false);
        x.eye(0, 2, 20);
        Check.due("in dim 0 it does not lean", x.laws(0, 0, -1), 20);
        Check.due("nor does a pair", x.parts(0, 0, 0, 1), 0);
    }

    private static void lightsAsTheyAreNow() {
        CandleBar x = new CandleBar();
        x.light(4, 100, 100, 100);
        x.light(4, 100, 0, 100);
        x.match(0, 1, 0, 0);
        Check.due("one to one", x.laws(0, 0, 0), 10010);
        Check.due("twenty", x.laws(0, 0, -1), 20);
        x.setting(0, 200);
        Check.due("twice the yellow light", x.laws(0, 0, 0), 10020);
        Check.due("ten", x.laws(0, 0, -1), 10);
        x.burn(0, 999);
        x.burn(0, 1);
        Check.due("it burnt down to as before", x.laws(0, 0, -1), 20);
        x.burn(1, 990);
        Check.due("the other burnt down to a hundredth", x.laws(0, 0, -1), 0);
        x.eye(0, 0, 1);
        x.eye(0, 1, 200);
        Check.due("what the eye weighs does not matter", x.laws(0, 50, -1), 400);
    }

    private static void greatestLessLeast() {
        CandleBar x = colours();
        Check.due("by all laws: 82 less 18", x.parts(0, 0, 0, 1), 64);
        Check.due("from the other end", x.parts(0, 0, 1, 0), 64);
        Check.due("two of one yellow", Check.lamps(1, 9999).parts(0, 0, 0, 1), 0);
        // The EYE that sees 20 to 1 at 82 has but one LAW: 200 to 10.
        Check.tell(x, 0, 1, 3, 82, 0);
        Check.due("one law", x.laws(3, 0, -1), 1);
        Check.due("it is", x.laws(3, 0, 0), 200010);
        Check.due("by one law", x.parts(3, 0, 0, 1), 0);
        Check.tell(x, 0, 1, 4, 18, 0);
        Check.due("the other one", x.laws(4, 0, 0), 10200);
        Check.due("by one law", x.parts(4, 0, 0, 1), 0);
        Check.due("all again", x.parts(0, 0, 0, 1), 64);
        Check.due("by all of the last eye, with the greatest slip", x.parts(7, 50, 0, 1), 64);
        Check.due("by one law again", x.parts(3, 0, 0, 2), 0);
        Check.tell(x, 0, 1, 5, 50, 0);
        Check.due("places 48 to 52", x.parts(5, 2, 0, 1), 4);
    }

    private static void firstPair() {
        CandleBar x = new CandleBar();
        x.light(0, 100, 50, 1);
        x.light(0, 100, 50, 1);
        Check.due("nothing parts them", x.show(0, 0), 1);
        x.light(0, 100, 50, 1);
        Check.due("nothing parts any: the first by a, then b", x.show(0, 0), 1);
        x.light(0, 100, 0, 1);
        x.light(0, 100, 100, 1);
        Check.due("blue and yellow", x.show(0, 0), 304);
        x.light(0, 100, 100, 1);
        Check.due("another yellow one: the first by b", x.show(0, 0), 304);
        x.light(0, 100, 0, 1);
        Check.due("another blue one: the first by a", x.show(0, 0), 304);
    }

    // ---- EYES that do not agree, MEAN EYES

    private static void disagreeEitherWay() {
        CandleBar x = colours();
        x.eye(1, 0, 200);
        x.eye(1, 1, 50);
        Check.due("50 less 67", x.disagree(0, 1, 0, 1, 0), -17);
        Check.due("67 less 50", x.disagree(1, 0, 0, 1, 0), 17);
        Check.due("50 less 33", x.disagree(0, 1, 1, 0, 0), 17);
        Check.due("one eye twice", x.disagree(1, 1, 0, 1, 0), 0);
        Check.due("two that see alike", x.disagree(2, 3, 0, 1, 9), 0);
    }

    private static void meansAreCut() {
        CandleBar x = new CandleBar();
        int[] more = {101, 101, 1};
        int[] first = {100, 100, 0};
        for (int what = 0; what <= 2; what++) {
            x.eye(0, what, more[what]);
            Check.due("one of one", x.mean(1, what), more[what]);
            Check.due("one of two", x.mean(3, what), first[what]);
            Check.due("one of eight", x.mean(255, what), first[what]);
            x.eye(1, what, more[what]);
            Check.due("two of three, cut", x.mean(7, what), first[what]);
            Check.due("two of two", x.mean(3, what), more[what]);
        }
        x.eye(2, 2, 4);
        Check.due("1, 1 and 4", x.mean(7, 2), 2);
        x.eye(2, 2, 3);
        Check.due("1, 1 and 3, cut", x.mean(7, 2), 1);
    }

    private static void oneOff() {
        CandleBar x = colours();
        x.eye(1, 0, 105);
        Check.due("50 and 51 by 102: at 50, 1 off above", x.stands(3, 0, 1), 3);
        Check.due("from the other end: 50 and 49", x.stands(3, 1, 0), 3);
        x.eye(1, 0, 113);
        Check.due("50 and 52 by 106: at 51, 1 off on both sides", x.stands(3, 0, 1), 3);
        x.eye(1, 0, 130);
        Check.due("50, 50 and 53 by 110: at 51", x.stands(7, 0, 1), 5);
        x.eye(1, 0, 77);
        x.eye(2, 0, 77);
        // By 84 they are alike at 48 (2704 by 84 less 2304: 3264 less) as by 77 at 47; 50 is 2 off.
        Check.due("50, 47 and 47 by 84: at 48", x.stands(7, 0, 1), 6);
    }

    private static void standsInDim0() {
        CandleBar x = colours();
        x.eye(0, 2, 20);
        x.eye(1, 2, 10);
        Check.due("they lean, and stand", x.stands(7, 0, 1), 7);
    }

    // ---- promises 16 to 18

    private static void howManyLaws() {
        Check.due("without lights all are let", new CandleBar().laws(0, 0, -1), 400);
        CandleBar x = colours();
        Check.due("the last eye, the greatest slip", x.laws(7, 50, -1), 400);
        Check.tell(x, 0, 1, 7, 1, 0);
        Check.due("none", x.laws(7, 0, -1), 0);
        Check.due("17 off is the nearest, 16 are too few", x.laws(7, 16, -1), 0);
        Check.due("17 let one", x.laws(7, 17, -1), 1);
    }

    private static void lawsInOrder() {
        CandleBar x = colours();
        int[] want = {10010, 10020, 10030};
        for (int i = 0; i < 3; i++) {
            Check.due("law " + i, x.laws(0, 0, i), want[i]);
        }
        Check.due("the last of the first yellow", x.laws(0, 0, 19), 10200);
        Check.due("the first of the next", x.laws(0, 0, 20), 20010);
        Check.due("the last", x.laws(0, 0, 399), 200200);
        Check.tell(x, 0, 1, 0, 67, 0);
        // 67 squared to 33 squared is 4.12; 4 to 1 is let, and what is as near to it.
        Check.due("the first that is let", x.laws(0, 0, 0), 40010);
        Check.due("the second", x.laws(0, 0, 1), 80020);
    }

    private static void lawsNotSoMany() {
        CandleBar x = colours();
        Check.due("the 401st", x.laws(0, 0, 400), -4);
        Check.due("far beyond", x.laws(0, 0, MAX), -4);
        Check.tell(x, 0, 1, 0, 50, 0);
        Check.due("the 20th of 20", x.laws(0, 0, 19), 200200);
        Check.due("the 21st of 20", x.laws(0, 0, 20), -4);
        Check.tell(x, 0, 1, 0, 99, 0);
        Check.due("the first of none", x.laws(0, 0, 0), -4);
    }

    private static void lawsNotAsTold() {
        CandleBar x = colours();
        int[][] wrong = {
            {-1, 0, -1}, {8, 0, -1}, {MIN, 0, 0}, {MAX, 0, 0}, {0, -1, -1}, {0, 51, -1}, {0, MIN, 0}, {0, MAX, 0},
            {0, 0, -2}, {0, 0, MIN}, {8, 51, -2},
        };
        for (int[] w : wrong) {
            Check.due("laws(" + w[0] + ", " + w[1] + ", " + w[2] + ")", x.laws(w[0], w[1], w[2]), -1);
        }
        Check.tell(x, 0, 1, 0, 99, 0);
        Check.due("not as told is ahead of none", x.laws(0, 0, -2), -1);
        Check.due("not as told is ahead of none", x.laws(0, 51, 0), -1);
    }

    private static void partsOfNone() {
        CandleBar x = colours();
        Check.tell(x, 0, 1, 0, 99, 0);
        Check.due("none is let", x.parts(0, 0, 0, 1), -4);
        Check.due("none is let with 16", x.parts(0, 16, 0, 1), -4);
        Check.due("one is let with 17", x.parts(0, 17, 0, 1), 0);
        Check.due("another eye", x.parts(1, 0, 0, 1), 64);
    }

    private static void partsNotAsTold() {
        CandleBar x = colours();
        int[][] wrong = {
            {-1, 0, 0, 1}, {8, 0, 0, 1}, {MIN, 0, 0, 1}, {MAX, 0, 0, 1}, {0, -1, 0, 1}, {0, 51, 0, 1}, {0, MIN, 0, 1},
            {0, MAX, 0, 1}, {0, 0, 0, 0}, {0, 0, 1, 1}, {0, 0, -1, 0}, {0, 0, 0, -1}, {0, 0, 3, 0}, {0, 0, 0, 3},
            {0, 0, MIN, 0}, {0, 0, 0, MAX},
        };
        for (int[] w : wrong) {
            String call = "parts(" + w[0] + ", " + w[1] + ", " + w[2] + ", " + w[3] + ")";
            Check.due(call, x.parts(w[0], w[1], w[2], w[3]), -1);
        }
        Check.tell(x, 0, 1, 0, 99, 0);
        Check.due("one twice is ahead of none", x.parts(0, 0, 1, 1), -1);
    }

    private static void showOfTheLastPair() {
        CandleBar x = new CandleBar();
        for (int k = 0; k <= 9; k++) {
            x.light(0, 100, 50, 1);
        }
        x.light(0, 100, 0, 1);
        x.light(0, 100, 100, 1);
        Check.due("10 and 11", x.show(0, 0), 1011);
        Check.due("by the last eye", x.show(7, 50), 1011);
        Check.due("10 and 11 part by as much", x.parts(0, 0, 10, 11), 64);
    }

    private static void showOfFew() {
        CandleBar x = new CandleBar();
        Check.due("no lights", x.show(0, 0), -4);
        x.light(0, 1, 0, 0);
        Check.due("one light", x.show(0, 0), -4);
        x.light(0, 1, 0, 0);
        Check.due("two lights", x.show(0, 0), 1);
        Check.due("not as told is ahead of none", new CandleBar().show(8, 0), -1);
    }

    private static void showOfNoLaw() {
        CandleBar x = colours();
        Check.tell(x, 0, 1, 7, 99, 0);
        Check.due("no law", x.show(7, 0), -4);
        Check.due("no law with 16", x.show(7, 16), -4);
        Check.due("one law with 17 parts nothing", x.show(7, 17), 1);
        Check.due("another eye", x.show(6, 0), 1);
        x.out(0, true);
        Check.due("it is out", x.show(7, 0), 1);
    }

    private static void showNotAsTold() {
        CandleBar x = colours();
        int[][] wrong = {{-1, 0}, {8, 0}, {MIN, 0}, {MAX, 0}, {0, -1}, {0, 51}, {0, MIN}, {0, MAX}, {8, 51}};
        for (int[] w : wrong) {
            Check.due("show(" + w[0] + ", " + w[1] + ")", x.show(w[0], w[1]), -1);
        }
    }

    // ---- promises 19 to 21

    private static void disagreeAtItsEnds() {
        CandleBar x = colours();
        x.eye(7, 0, 200);
        x.eye(7, 1, 1);
        x.eye(0, 0, 1);
        x.eye(0, 1, 200);
        // 200 to 1: at 93 8649 to 9800, at 94 8836 to 7200; so 93 and 7.
        Check.due("93 less 7", x.disagree(7, 0, 0, 1, 0), 86);
        Check.due("7 less 93", x.disagree(0, 7, 0, 1, 0), -86);
        x.eye(7, 2, 20);
        Check.due("in dim 9 it leans: 20 to 181 is at 25", x.disagree(7, 0, 0, 1, 9), 25 - 7);
    }

    private static void disagreeNotAsTold() {
        CandleBar x = colours();
        int[][] wrong = {
            {-1, 1, 0, 1, 0}, {8, 1, 0, 1, 0}, {MIN, 1, 0, 1, 0}, {0, -1, 0, 1, 0}, {0, 8, 0, 1, 0}, {0, MAX, 0, 1, 0},
            {0, 1, 0, 0, 0}, {0, 1, 1, 1, 0}, {0, 1, -1, 1, 0}, {0, 1, 3, 1, 0}, {0, 1, 0, -1, 0}, {0, 1, 0, 3, 0},
            {0, 1, MIN, 1, 0}, {0, 1, 0, MAX, 0}, {0, 1, 0, 1, -1}, {0, 1, 0, 1, 10}, {0, 1, 0, 1, MIN}, {0, 1, 0, 1, MAX},
        };
        for (int[] w : wrong) {
            String call = "disagree(" + w[0] + ", " + w[1] + ", " + w[2] + ", " + w[3] + ", " + w[4] + ")";
            Check.due(call, x.disagree(w[0], w[1], w[2], w[3], w[4]), SIGNED_WRONG);
        }
    }

    private static void meanAtItsEnds() {
        CandleBar x = new CandleBar();
        int[] greatest = {200, 200, 20};
        int[] least = {1, 1, 0};
        for (int what = 0; what <= 2; what++) {
            for (int eye = 0; eye <= 7; eye++) {
                x.eye(eye, what, greatest[what]);
                Check.due("each alone", x.mean(1 << eye, what), greatest[what]);
            }
            Check.due("all greatest", x.mean(255, what), greatest[what]);
            for (int eye = 0; eye <= 6; eye++) {
                x.eye(eye, what, least[what]);
            }
            Check.due("seven least", x.mean(127, what), least[what]);
            Check.due("seven least and one greatest, cut", x.mean(255, what), (7 * least[what] + greatest[what]) / 8);
        }
    }

    private static void meanNotAsTold() {
        CandleBar x = new CandleBar();
        int[][] wrong = {{0, 0}, {256, 0}, {-1, 0}, {257, 0}, {MIN, 0}, {MAX, 0}, {1, -1}, {1, 3}, {1, MIN}, {1, MAX}};
        for (int[] w : wrong) {
            Check.due("mean(" + w[0] + ", " + w[1] + ")", x.mean(w[0], w[1]), -1);
        }
    }

    private static void standsAtItsEnds() {
        CandleBar x = colours();
        for (int eye = 0; eye <= 7; eye++) {
            Check.due("each for itself", x.stands(1 << eye, 0, 1), 1 << eye);
        }
        Check.due("all", x.stands(255, 0, 1), 255);
        x.eye(7, 0, 200);
        x.eye(0, 1, 200);
        Check.due("two of all are too far", x.stands(255, 0, 1), 126);
        Check.due("two apart: for none of them", x.stands(129, 0, 1), 0);
    }

    private static void standsNotAsTold() {
        CandleBar x = colours();
        int[][] wrong = {
            {0, 0, 1}, {256, 0, 1}, {-1, 0, 1}, {257, 0, 1}, {MIN, 0, 1}, {MAX, 0, 1}, {1, 0, 0}, {1, 1, 1}, {1, -1, 1},
            {1, 3, 1}, {1, 0, -1}, {1, 0, 3}, {1, MIN, 1}, {1, 0, MAX},
        };
        for (int[] w : wrong) {
            Check.due("stands(" + w[0] + ", " + w[1] + ", " + w[2] + ")", x.stands(w[0], w[1], w[2]), -1);
        }
    }
}
