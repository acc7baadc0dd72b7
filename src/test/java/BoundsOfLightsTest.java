/** The boundaries that the document names for LIGHTS and the AIR: Terms 1, promises 1 to 6. */
public final class BoundsOfLightsTest {
    private static final int MIN = Integer.MIN_VALUE;
    private static final int MAX = Integer.MAX_VALUE;
    private static final int LAMP = 0;
    private static final int CANDLE = 1;
    private static final int VINEGAR = 2;
    private static final int GAS = 3;
    private static final int GLOWING = 4;
    private static final int COLOURED = 5;
    private static final int METAL = 6;
    private static final int KEPT = 7;

    private BoundsOfLightsTest() {
    }

    public static void main(String[] args) {
        Document.says("What it is", "An object is used for at most 512 calls after it has been made",
                BoundsOfLightsTest::lastCall);
        termsOfLights();
        termsOfGives();
        termsOfWanders();
        promises();
        Document.finish(1, 6);
    }

    private static void termsOfLights() {
        String part = "Terms 1";
        Document.says(part, "LIGHTS 0 .. 11 as they come", BoundsOfLightsTest::numbers);
        Document.says(part, "of KINDS: 0 LIGHT; 1 CANDLE under LIGHT; 2 VINEGAR under LIGHT; 3 GAS under LIGHT; "
                + "4 GLOWING under LIGHT; 5 COLOURED under LIGHT; 6 METAL under LIGHT; 7 KEPT under GLOWING",
                BoundsOfLightsTest::kinds);
        Document.says(part, "a STRENGTH (1 .. 9999)", BoundsOfLightsTest::strengths);
        Document.says(part, "YELLOW (0 .. 100 hundredths; the rest is blue)", BoundsOfLightsTest::yellows);
        Document.says(part, "a SETTING (0 .. 200:", BoundsOfLightsTest::settings);
        Document.says(part, "HOURS burnt of each (0 at first).", BoundsOfLightsTest::hoursAtFirst);
        Document.says(part, "The AIR is DAMP (0 .. 50; 0 at first).", BoundsOfLightsTest::damps);
    }

    private static void termsOfGives() {
        String part = "Terms 1";
        Document.says(part, "LIGHT its STRENGTH.", () -> plainGives(LAMP, 0));
        Document.says(part, "CANDLE: a LIGHT's times SETTING by 120, cut.", BoundsOfLightsTest::candleGives);
        Document.says(part, "VINEGAR: a LIGHT's and 5 times (SETTING less 40).", BoundsOfLightsTest::vinegarGives);
        Document.says(part, "GAS: a LIGHT's times (100 and SETTING) by 100, cut, less DAMP.",
                BoundsOfLightsTest::gasGives);
        Document.says(part, "GLOWING: a LIGHT's times SETTING by 100, cut, less HOURS by 10, cut.",
                BoundsOfLightsTest::glowingGives);
        Document.says(part, "COLOURED: a LIGHT's less DAMP.", () -> plainGives(COLOURED, 1));
        Document.says(part, "METAL: a LIGHT's.", () -> plainGives(METAL, 0));
        Document.says(part, "KEPT: a GLOWING's less HOURS by 20, cut.", BoundsOfLightsTest::keptGives);
        Document.says(part, "What one GIVES is held to 1 .. 99999 at the end", BoundsOfLightsTest::givesIsHeld);
        Document.says(part, "(a KEPT one's by a GLOWING's that isn't held)", BoundsOfLightsTest::keptIsHeldLast);
    }

    private static void termsOfWanders() {
        String part = "Terms 1";
        Document.says(part, "LIGHT 3;", () -> stillWanders(LAMP, 3));
        Document.says(part, "CANDLE a LIGHT's and DAMP;", BoundsOfLightsTest::candleWanders);
        Document.says(part, "VINEGAR a LIGHT's and how far SETTING is from 40;", BoundsOfLightsTest::vinegarWanders);
        Document.says(part, "GAS twice a LIGHT's;", () -> stillWanders(GAS, 6));
        Document.says(part, "GLOWING a LIGHT's less 2;", () -> stillWanders(GLOWING, 1));
        Document.says(part, "COLOURED a LIGHT's and 4;", () -> stillWanders(COLOURED, 7));
        Document.says(part, "METAL 0;", () -> stillWanders(METAL, 0));
        Document.says(part, "KEPT a GLOWING's plus (HOURS over 100, cut).", BoundsOfLightsTest::keptWanders);
    }

    private static void promises() {
        Document.says("Promise 1", "No LIGHTS.", BoundsOfLightsTest::newObject);
        Document.says("Promise 2", "A LIGHT: its number.", BoundsOfLightsTest::lightAtItsEnds);
        Document.says("Promise 2", "-1;", BoundsOfLightsTest::lightNotAsTold);
        Document.says("Promise 2", "-2.", BoundsOfLightsTest::lightWithoutRoom);
        Document.says("Promise 3", "SETTING of a LIGHT: what it was.", BoundsOfLightsTest::settingWas);
        Document.says("Promise 3", "-1.", BoundsOfLightsTest::settingNotAsTold);
        Document.says("Promise 4", "A LIGHT burns n HOURS (1 .. 999): all its HOURS.", BoundsOfLightsTest::burnAtItsEnds);
        Document.says("Promise 4", "-1;", BoundsOfLightsTest::burnNotAsTold);
        Document.says("Promise 4", "-2: above 99999.", BoundsOfLightsTest::burnAboveAll);
        Document.says("Promise 5", "DAMP: what it was.", BoundsOfLightsTest::dampWas);
        Document.says("Promise 5", "-1.", BoundsOfLightsTest::dampNotAsTold);
        Document.says("Promise 6", "0 KIND, 1 STRENGTH, 2 YELLOW, 3 SETTING, 4 HOURS, 5 GIVES, 6 WANDERS.",
                BoundsOfLightsTest::ofAtItsEnds);
        Document.says("Promise 6", "-1.", BoundsOfLightsTest::ofNotAsTold);
    }

    /** A new object with one LIGHT that burnt so long in so DAMP an AIR. */
    private static CandleBar one(int kind, int strength, int setting, int hours, int damp) {
        CandleBar x = new CandleBar();
        Check.due("light", x.light(kind, strength, 50, setting), 0);
        burnFor(x, 0, hours);
        Check.due("damp", x.damp(damp), 0);
        return x;
    }

    private static void burnFor(CandleBar x, int light, int hours) {
        int all = x.of(light, 4);
        for (int left = hours; left > 0; left -= 999) {
            all += Math.min(left, 999);
            Check.due("burn", x.burn(light, Math.min(left, 999)), all);
        }
    }

    private static void dueGives(int kind, int strength, int setting, int hours, int damp, int want) {
        Check.due("a light (kind " + kind + ", strength " + strength + ", setting " + setting + ", hours " + hours
                + ", damp " + damp + ") gives", one(kind, strength, setting, hours, damp).of(0, 5), want);
    }

    private static void dueWanders(int kind, int setting, int hours, int damp, int want) {
        Check.due("a light (kind " + kind + ", setting " + setting + ", hours " + hours + ", damp " + damp
                + ") wanders by", one(kind, 100, setting, hours, damp).of(0, 6), want);
    }

    private static void lastCall() {
        CandleBar x = new CandleBar();
        x.light(KEPT, 9999, 100, 200);
        for (int call = 2; call <= 511; call++) {
            x.burn(0, 196);
        }
        Check.due("the call 512", x.burn(0, 39), 99999);
        x = new CandleBar();
        for (int call = 1; call <= 511; call++) {
            x.row(call % 8, call % 3, 100);
        }
        Check.dueElement(x, 0, 99, "0");
    }

    // ---- LIGHTS

    private static void numbers() {
        CandleBar x = new CandleBar();
        for (int k = 0; k <= 11; k++) {
            Check.due("count", x.count(0), k);
            Check.due("not there yet", x.of(k, 0), -1);
            Check.due("light", x.light(LAMP, 1, 0, 0), k);
            Check.due("it is there", x.of(k, 0), LAMP);
        }
        Check.due("no light 12", x.of(12, 0), -1);
    }

    private static void kinds() {
        CandleBar x = new CandleBar();
        for (int kind = 0; kind <= 7; kind++) {
            Check.due("light", x.light(kind, 1, 0, 0), kind);
            Check.due("its kind", x.of(kind, 0), kind);
        }
        Check.due("no kind -1", x.light(-1, 1, 0, 0), -1);
        Check.due("no kind 8", x.light(8, 1, 0, 0), -1);
    }

    private static void strengths() {
        CandleBar x = new CandleBar();
        Check.due("0", x.light(LAMP, 0, 0, 0), -1);
        Check.due("1", x.light(LAMP, 1, 0, 0), 0);
        Check.due("9999", x.light(LAMP, 9999, 0, 0), 1);
        Check.due("10000", x.light(LAMP, 10000, 0, 0), -1);
        Check.due("the least", x.of(0, 1), 1);
        Check.due("the greatest", x.of(1, 1), 9999);
    }

    private static void yellows() {
        CandleBar x = new CandleBar();
        Check.due("-1", x.light(LAMP, 1, -1, 0), -1);
        Check.due("0", x.light(LAMP, 1, 0, 0), 0);
        Check.due("100", x.light(LAMP, 1, 100, 0), 1);
        Check.due("101", x.light(LAMP, 1, 101, 0), -1);
        x.eye(0, 0, 3);
        x.eye(0, 1, 7);
        Check.due("all of it is blue", x.seen(0, 0, 0), 700);
        Check.due("all of it is yellow", x.seen(1, 0, 0), 300);
        Check.due("the least", x.of(0, 2), 0);
        Check.due("the greatest", x.of(1, 2), 100);
    }

    private static void settings() {
        CandleBar x = new CandleBar();
        Check.due("-1", x.light(LAMP, 1, 0, -1), -1);
        Check.due("0", x.light(LAMP, 1, 0, 0), 0);
        Check.due("200", x.light(LAMP, 1, 0, 200), 1);
        Check.due("201", x.light(LAMP, 1, 0, 201), -1);
        Check.due("the least", x.of(0, 3), 0);
        Check.due("the greatest", x.of(1, 3), 200);
    }

    private static void hoursAtFirst() {
        CandleBar x = new CandleBar();
        x.image();
        for (int kind = 0; kind <= 7; kind++) {
            x.light(kind, 1, 0, 0);
            Check.due("hours at first", x.of(kind, 4), 0);
            burnFor(x, kind, 5 + kind);
        }
        for (int kind = 0; kind <= 7; kind++) {
            Check.due("hours of each", x.of(kind, 4), 5 + kind);
        }
        x.restore();
        x.light(KEPT, 1, 0, 0);
        Check.due("hours of another light 0", x.of(0, 4), 0);
    }

    private static void damps() {
        CandleBar x = new CandleBar();
        Check.due("-1", x.damp(-1), -1);
        Check.due("0 at first", x.damp(50), 0);
        Check.due("50", x.damp(0), 50);
        Check.due("51", x.damp(51), -1);
        Check.due("0", x.damp(1), 0);
    }

    // ---- what they GIVE

    /** GIVES its STRENGTH, less so many times DAMP, whatever its SETTING and HOURS. */
    private static void plainGives(int kind, int damps) {
        for (int setting = 0; setting <= 200; setting += 100) {
            dueGives(kind, 1, setting, 0, 0, 1);
            dueGives(kind, 9999, setting, 0, 0, 9999);
            dueGives(kind, 9999, setting, 99999, 50, 9999 - 50 * damps);
            dueGives(kind, 51, setting, 999, 50, 51 - 50 * damps);
            dueGives(kind, 52, setting, 999, 50, 52 - 50 * damps);
        }
    }

    private static void candleGives() {
        dueGives(CANDLE, 1, 120, 0, 0, 1);
        dueGives(CANDLE, 100, 119, 0, 0, 99);
        dueGives(CANDLE, 100, 121, 0, 0, 100);
        dueGives(CANDLE, 119, 1, 0, 0, 1);
        dueGives(CANDLE, 239, 1, 0, 0, 1);
        dueGives(CANDLE, 240, 1, 0, 0, 2);
        dueGives(CANDLE, 1, 200, 0, 0, 1);
        dueGives(CANDLE, 9999, 200, 99999, 50, 16665);
    }

    private static void vinegarGives() {
        dueGives(VINEGAR, 10, 40, 0, 0, 10);
        dueGives(VINEGAR, 10, 41, 0, 0, 15);
        dueGives(VINEGAR, 10, 39, 0, 0, 5);
        dueGives(VINEGAR, 202, 0, 0, 0, 2);
        dueGives(VINEGAR, 9999, 200, 99999, 50, 10799);
    }

    private static void gasGives() {
        dueGives(GAS, 1, 99, 0, 0, 1);
        dueGives(GAS, 1, 100, 0, 0, 2);
        dueGives(GAS, 7, 0, 0, 0, 7);
        dueGives(GAS, 3, 33, 0, 1, 2);
        dueGives(GAS, 3, 34, 0, 1, 3);
        dueGives(GAS, 52, 0, 0, 50, 2);
        dueGives(GAS, 9999, 200, 99999, 0, 29997);
    }

    private static void glowingGives() {
        dueGives(GLOWING, 3, 66, 0, 0, 1);
        dueGives(GLOWING, 3, 67, 0, 0, 2);
        dueGives(GLOWING, 9999, 1, 0, 0, 99);
        dueGives(GLOWING, 100, 100, 9, 0, 100);
        dueGives(GLOWING, 100, 100, 10, 50, 99);
        dueGives(GLOWING, 100, 100, 19, 0, 99);
        dueGives(GLOWING, 9999, 200, 99999, 0, 19998 - 9999);
    }

    private static void keptGives() {
        dueGives(KEPT, 100, 100, 9, 0, 100);
        dueGives(KEPT, 100, 100, 10, 50, 99);
        dueGives(KEPT, 100, 100, 19, 0, 99);
        dueGives(KEPT, 100, 100, 20, 0, 97);
        dueGives(KEPT, 100, 100, 39, 0, 96);
        dueGives(KEPT, 100, 100, 40, 0, 94);
        dueGives(KEPT, 3, 67, 0, 0, 2);
        dueGives(KEPT, 9999, 200, 99999, 0, 19998 - 9999 - 4999);
    }

    private static void givesIsHeld() {
        dueGives(CANDLE, 1, 0, 0, 0, 1);
        dueGives(CANDLE, 1, 119, 0, 0, 1);
        dueGives(VINEGAR, 200, 0, 0, 0, 1);
        dueGives(VINEGAR, 201, 0, 0, 0, 1);
        dueGives(VINEGAR, 1, 0, 0, 0, 1);
        dueGives(GAS, 1, 0, 0, 50, 1);
        dueGives(GAS, 50, 0, 0, 50, 1);
        dueGives(GAS, 51, 0, 0, 50, 1);
        dueGives(GLOWING, 9999, 0, 0, 0, 1);
        dueGives(GLOWING, 100, 100, 999, 0, 1);
        dueGives(GLOWING, 100, 100, 990, 0, 1);
        dueGives(GLOWING, 101, 100, 990, 0, 2);
        dueGives(GLOWING, 1, 0, 99999, 0, 1);
        dueGives(COLOURED, 1, 0, 0, 50, 1);
        dueGives(COLOURED, 50, 0, 0, 50, 1);
    }

    private static void keptIsHeldLast() {
        dueGives(KEPT, 1, 0, 0, 0, 1);
        dueGives(KEPT, 1, 0, 99999, 0, 1);
        // 10 less 9 is a GLOWING one's 1; less 4 more there is nothing left to hold.
        dueGives(KEPT, 10, 100, 90, 0, 1);
        dueGives(KEPT, 14, 100, 90, 0, 1);
        dueGives(KEPT, 15, 100, 90, 0, 2);
        // A GLOWING one's 0 that were held to 1 ahead of the 0 for 19 HOURS would be no other.
        dueGives(KEPT, 1, 99, 19, 0, 1);
    }

    // ---- by what they WANDER

    private static void stillWanders(int kind, int want) {
        dueWanders(kind, 0, 0, 0, want);
        dueWanders(kind, 40, 100, 0, want);
        dueWanders(kind, 200, 99999, 50, want);
    }

    private static void candleWanders() {
        dueWanders(CANDLE, 0, 0, 0, 3);
        dueWanders(CANDLE, 120, 999, 1, 4);
        dueWanders(CANDLE, 200, 99999, 50, 53);
    }

    private static void vinegarWanders() {
        dueWanders(VINEGAR, 40, 0, 0, 3);
        dueWanders(VINEGAR, 41, 0, 50, 4);
        dueWanders(VINEGAR, 39, 999, 0, 4);
        dueWanders(VINEGAR, 0, 0, 0, 43);
        dueWanders(VINEGAR, 200, 99999, 50, 163);
    }

    private static void keptWanders() {
        dueWanders(KEPT, 0, 0, 50, 1);
        dueWanders(KEPT, 200, 99, 0, 1);
        dueWanders(KEPT, 40, 100, 0, 2);
        dueWanders(KEPT, 40, 199, 0, 2);
        dueWanders(KEPT, 40, 200, 0, 3);
        dueWanders(KEPT, 40, 99999, 0, 1000);
    }

    // ---- promises 1 to 6

    private static void newObject() {
        CandleBar x = new CandleBar();
        Check.due("no lights", x.count(0), 0);
        Check.due("no light 0", x.of(0, 0), -1);
        Check.due("nothing to set", x.setting(0, 0), -1);
        Check.due("nothing to burn", x.burn(0, 1), -1);
        Check.due("nothing to keep", x.keep(0, 1, 0), -1);
        Check.due("an image of none", x.image(), 0);
        Check.due("another object's lights are its own", Check.lamps(5).count(0) + x.count(0), 1);
    }

    private static void lightAtItsEnds() {
        CandleBar x = new CandleBar();
        Check.due("all least", x.light(LAMP, 1, 0, 0), 0);
        Check.due("all greatest", x.light(KEPT, 9999, 100, 200), 1);
        int[] greatest = {KEPT, 9999, 100, 200, 0, 19998, 1};
        int[] least = {LAMP, 1, 0, 0, 0, 1, 3};
        for (int what = 0; what <= 6; what++) {
            Check.due("of the least, " + what, x.of(0, what), least[what]);
            Check.due("of the greatest, " + what, x.of(1, what), greatest[what]);
        }
    }

    private static void lightNotAsTold() {
        CandleBar x = new CandleBar();
        int[][] wrong = {
            {-1, 1, 0, 0}, {8, 1, 0, 0}, {MIN, 1, 0, 0}, {MAX, 1, 0, 0}, {0, 0, 0, 0}, {0, 10000, 0, 0}, {0, MIN, 0, 0},
            {0, MAX, 0, 0}, {0, -1, 0, 0}, {0, 1, -1, 0}, {0, 1, 101, 0}, {0, 1, MIN, 0}, {0, 1, MAX, 0}, {0, 1, 0, -1},
            {0, 1, 0, 201}, {0, 1, 0, MIN}, {0, 1, 0, MAX}, {8, 0, 101, 201}, {7, 9999, 100, 201}, {-1, 9999, 100, 200},
        };
        for (int[] w : wrong) {
            Check.due("light(" + w[0] + ", " + w[1] + ", " + w[2] + ", " + w[3] + ")", x.light(w[0], w[1], w[2], w[3]), -1);
        }
        Check.due("none came", x.count(0), 0);
        Check.due("the first that comes is 0", x.light(LAMP, 1, 0, 0), 0);
    }

    private static void lightWithoutRoom() {
        CandleBar x = new CandleBar();
        for (int k = 0; k <= 11; k++) {
            Check.due("there is room", x.light(LAMP, 1, 0, 0), k);
            Check.due("each burns", x.burn(k, 999), 999);
        }
        Check.due("no room", x.light(KEPT, 2, 3, 4), -2);
        Check.due("still no room", x.light(LAMP, 1, 0, 0), -2);
        Check.due("not as told is ahead of no room", x.light(LAMP, 0, 0, 0), -1);
        Check.due("twelve", x.count(0), 12);
        Check.due("all hours of twelve", x.count(4), 12 * 999);
        Check.due("the last is as it was", x.of(11, 1), 1);
    }

    private static void settingWas() {
        CandleBar x = Check.lamps(1, 1);
        Check.due("to the greatest", x.setting(0, 200), 1);
        Check.due("to the least", x.setting(0, 0), 200);
        Check.due("to the same", x.setting(0, 0), 0);
        Check.due("the other's", x.of(1, 3), 1);
    }

    private static void settingNotAsTold() {
        CandleBar x = Check.lamps(1, 1);
        int[][] wrong = {{-1, 5}, {2, 5}, {12, 5}, {MIN, 5}, {MAX, 5}, {0, -1}, {0, 201}, {1, MIN}, {1, MAX}, {2, 201}};
        for (int[] w : wrong) {
            Check.due("setting(" + w[0] + ", " + w[1] + ")", x.setting(w[0], w[1]), -1);
        }
        Check.due("as it was", x.of(0, 3), 1);
        Check.due("as it was", x.of(1, 3), 1);
    }

    private static void burnAtItsEnds() {
        CandleBar x = Check.lamps(1, 1);
        Check.due("1", x.burn(0, 1), 1);
        Check.due("999", x.burn(0, 999), 1000);
        Check.due("all of its own", x.burn(1, 999), 999);
        Check.due("told alike", x.of(0, 4), 1000);
    }

    private static void burnNotAsTold() {
        CandleBar x = Check.lamps(1, 1);
        int[][] wrong = {{-1, 5}, {2, 5}, {12, 5}, {MIN, 5}, {MAX, 5}, {0, 0}, {0, -1}, {0, 1000}, {1, MIN}, {1, MAX}, {2, 0}};
        for (int[] w : wrong) {
            Check.due("burn(" + w[0] + ", " + w[1] + ")", x.burn(w[0], w[1]), -1);
        }
        Check.due("no hours", x.count(4), 0);
    }

    private static void burnAboveAll() {
        CandleBar x = Check.lamps(1, 1);
        burnFor(x, 0, 99001);
        Check.due("100000", x.burn(0, 999), -2);
        Check.due("as before", x.of(0, 4), 99001);
        Check.due("99999", x.burn(0, 998), 99999);
        Check.due("one more", x.burn(0, 1), -2);
        Check.due("999 more", x.burn(0, 999), -2);
        Check.due("not as told is ahead of no room", x.burn(0, 1000), -1);
        Check.due("not as told is ahead of no room", x.burn(0, 0), -1);
        Check.due("as before", x.of(0, 4), 99999);
        Check.due("the other has room", x.burn(1, 999), 999);
        Check.due("all hours may be above", x.count(4), 100998);
    }

    private static void dampWas() {
        CandleBar x = new CandleBar();
        Check.due("the first time", x.damp(50), 0);
        Check.due("the same again", x.damp(50), 50);
        Check.due("back", x.damp(0), 50);
        Check.due("0 again", x.damp(0), 0);
    }

    private static void dampNotAsTold() {
        CandleBar x = new CandleBar();
        Check.due("damp(7)", x.damp(7), 0);
        for (int wrong : new int[] {-1, 51, MIN, MAX}) {
            Check.due("damp(" + wrong + ")", x.damp(wrong), -1);
        }
        Check.due("as it was", x.damp(0), 7);
    }

    private static void ofAtItsEnds() {
        CandleBar x = new CandleBar();
        for (int k = 0; k < 11; k++) {
            x.light(LAMP, 1, 0, 0);
        }
        Check.due("the last light", x.light(VINEGAR, 44, 55, 66), 11);
        x.burn(11, 77);
        int[] want = {VINEGAR, 44, 55, 66, 77, 44 + 5 * 26, 3 + 26};
        for (int what = 0; what <= 6; what++) {
            Check.due("of(11, " + what + ")", x.of(11, what), want[what]);
        }
    }

    private static void ofNotAsTold() {
        CandleBar x = Check.lamps(1, 1);
        int[][] wrong = {{-1, 0}, {2, 0}, {12, 0}, {MIN, 0}, {MAX, 0}, {0, -1}, {0, 7}, {1, MIN}, {1, MAX}, {2, 7}};
        for (int[] w : wrong) {
            Check.due("of(" + w[0] + ", " + w[1] + ")", x.of(w[0], w[1]), -1);
        }
    }
}
