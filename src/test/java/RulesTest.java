/** Promises 22 to 31: fault, rule, right, standard, worth, steady, aged, bill, paid, owed. */
public final class RulesTest {
    private static final long WRONG = Check.OF_LONGS - 1;
    private static final long CANNOT = Check.OF_LONGS - 3;

    private RulesTest() {
    }

    public static void main(String[] args) {
        faults();
        faultRefused();
        rule();
        rights();
        rightIn32Bits();
        standardAndWorth();
        steady();
        aged();
        bills();
        billRefused();
        owed();
        Check.finish();
    }

    private static void faults() {
        CandleBar x = new CandleBar();
        String[] rules = {
            "g", "s", "t", "h", "w", "d", "y", "0", "9999", "10", "g+s", "g-s*t/h", "(g)", "[g,s]", "((((((g))))))",
            "[[[[[[g,0],0],0],0],0],0]", "([([([1,2]),4]),3])", "[0,[0,[0,[0,[0,[0,g]]]]]]", "(g)*(g)-(g)", "0/0", "[g+1,s*2]",
        };
        for (String text : rules) {
            Check.write(x = new CandleBar(), 3, text);
            Check.due("fault of " + text, x.fault(3), -4);
            Check.due("rule of " + text, x.rule(3), 1);
        }
        String[] texts = {
            "", "x", "G", " g", "g ", "gg", "g+", "g+*", "-g", "01", "00", "12345", "g1", "1g", "()", "(", "(g", "(g,g)",
            "[g]", "[g", "[g,", "[g,g", "[g,g)", "[g,g,g]", "(g]", ")", "]", ",", "g,g", "(((((((", "[[[[[[[", "([([([(", "g/",
            "g-(s", "0(", "(g)g", "(g)(g)", "g++g", "((((((g))))))+((((((([", "1+10000", "[0,[0,[0,[0,[0,[0,[0",
        };
        int[] want = {
            0, 0, 0, 0, 1, 1, 2, 2, 0, 1, 1, 4, 1, 1, 1, 1, 2, 2,
            2, 2, 3, 4, 4, 4, 2, 0, 0, 0, 1, 6, 6, 6, 2,
            4, 1, 3, 3, 2, 20, 6, 18,
        };
        for (int k = 0; k < texts.length; k++) {
            Check.write(x = new CandleBar(), 3, texts[k]);
            Check.due("fault of " + texts[k], x.fault(3), want[k]);
            Check.due("rule of " + texts[k], x.rule(3), -100 - want[k]);
        }
        Check.fill(x, 0, Check.BYTES, 'g', -1);
        Check.due("a byte below 0", x.fault(0), 1);
        Check.fill(x, 0, Check.BYTES, 'g', 0);
        Check.due("a byte 0", x.fault(0), 1);
        Check.due("-100 less a fault", x.rule(0), -101);
        StringBuilder longest = new StringBuilder("10");
        for (int k = 0; k < 49; k++) {
            longest.append("+1");
        }
        Check.write(x, 0, longest.toString());
        Check.due("a hundred bytes", x.fault(0), -4);
        longest.setCharAt(99, '+');
        Check.write(x, 0, longest.toString());
        Check.due("ends too early", x.fault(0), 99);
    }

    private static void faultRefused() {
        CandleBar x = new CandleBar();
        x.light(0, 1, 0, 0);
        x.keep(1, 1, 0);
        x.row(2, Check.SHORTS, 1);
        x.row(3, Check.INTS, 1);
        int[] shelves = {-1, 8, 0, 1, 2, 3};
        int[] want = {-1, -1, -11, -12, -12, -12};
        for (int k = 0; k < shelves.length; k++) {
            Check.due("fault(" + shelves[k] + ")", x.fault(shelves[k]), want[k]);
            Check.due("rule(" + shelves[k] + ")", x.rule(shelves[k]), want[k]);
        }
    }

    private static void rule() {
        CandleBar x = new CandleBar();
        x.light(2, 100, 7, 60);
        Check.due("at first g", x.right(0), 200);
        Check.write(x, 0, "s+1");
        Check.due("as before", x.right(0), 200);
        Check.due("in force", x.rule(0), 1);
        Check.due("by the rule", x.right(0), 101);
        x.put(0, 2, '2');
        Check.due("the row may change", x.right(0), 101);
        x.keep(0, 0, 0);
        Check.due("the row may go", x.right(0), 101);
        Check.write(x, 0, "s+");
        Check.due("refused", x.rule(0), -102);
        Check.due("still in force", x.right(0), 101);
    }

    private static int rightBy(CandleBar x, String text) {
        Check.write(x, 0, text);
        Check.due("rule " + text, x.rule(0), 1);
        return x.right(0);
    }

    private static void rights() {
        CandleBar x = new CandleBar();
        x.light(1, 240, 33, 61);
        x.burn(0, 17);
        x.damp(5);
        String[] texts = {"g", "s", "t", "h", "w", "d", "y", "9-5-3", "9-(5-3)", "2+3*4", "(2+3)*4", "100/7/2"};
        int[] want = {122, 240, 61, 17, 8, 5, 33, 1, 7, 14, 20, 7};
        for (int k = 0; k < texts.length; k++) {
            Check.due(texts[k], rightBy(x, texts[k]), want[k]);
        }
        x = new CandleBar();
        x.light(1, 240, 33, 61);
        Check.due("cut toward 0", rightBy(x, "(0-7)/2"), -3);
        Check.due("by 0", rightBy(x, "7/(5-5)"), 0);
        Check.due("by 0, then on", rightBy(x, "7/0*3+4"), 4);
        Check.due("the lesser, the first", rightBy(x, "[3,4]"), 3);
        Check.due("the lesser, the second", rightBy(x, "[4,0-3]"), -3);
        Check.due("from the left", rightBy(x, "7*3/2*5"), 50);
        Check.due("no light", x.right(1), Check.OF_SIGNED - 1);
        Check.due("no light", x.right(-1), Check.OF_SIGNED - 1);
    }

    private static void rightIn32Bits() {
        CandleBar x = new CandleBar();
        x.light(0, 1, 0, 0);
        Check.due("wraps", rightBy(x, "9999*9999*9999"), 9999 * 9999 * 9999);
        Check.due("the greatest", rightBy(x, "8192*8192*32-1"), Integer.MAX_VALUE);
        Check.due("one more", rightBy(x, "8192*8192*32"), Integer.MIN_VALUE);
        Check.due("the least by -1", rightBy(x, "8192*8192*32/(0-1)"), Integer.MIN_VALUE);
        x.standard(0);
        Check.due("its worth in 64 bits", x.worth(0), 100);
    }

    private static void standardAndWorth() {
        CandleBar x = new CandleBar();
        Check.due("no light, no standard", x.worth(0), WRONG);
        x.light(0, 30, 0, 0);
        x.light(0, 50, 0, 0);
        Check.due("no standard", x.worth(0), CANNOT);
        Check.due("no light is ahead of no standard", x.worth(2), WRONG);
        Check.due("no light", x.standard(2), -1);
        Check.due("no light", x.standard(-1), -1);
        Check.due("still none", x.worth(0), CANNOT);
        Check.due("none before", x.standard(0), -4);
        Check.due("by light 0", x.worth(1), 166);
        Check.due("itself", x.worth(0), 100);
        Check.due("refused", x.standard(2), -1);
        Check.due("0 before", x.standard(1), 0);
        Check.due("by light 1", x.worth(0), 60);
        Check.due("1 before", x.standard(1), 1);
        rightBy(x, "s-40");
        Check.due("-10 by 10", x.worth(0), -100);
        x.standard(0);
        rightBy(x, "s-37");
        Check.due("13 by -7, cut toward 0", x.worth(1), -185);
        rightBy(x, "s-30");
        Check.due("by 0", x.worth(1), 0);
        Check.due("0 by 0", x.worth(0), 0);
        rightBy(x, "1+8192*8192*31*(s-30)/20");
        Check.due("above 32 bits", x.worth(1), (8192 * 8192 * 31 * 20 / 20 + 1) * 100L);
    }

    private static void steady() {
        CandleBar x = new CandleBar();
        Check.due("no lights", x.steady(1), -1);
        x.light(0, 100, 0, 0);
        x.light(0, 200, 0, 0);
        x.light(3, 400, 0, 0);
        x.light(6, 1, 0, 0);
        x.light(6, 2, 0, 0);
        Check.due("3 for 200", x.steady(3), 1);
        Check.due("3 for 200 and 6 for 400", x.steady(7), 1);
        Check.due("6 for 400", x.steady(5), 2);
        Check.due("metals", x.steady(31), 3);
        Check.due("the other metal", x.steady(23), 4);
        Check.due("one alone", x.steady(1), 0);
        Check.due("none", x.steady(0), -1);
        Check.due("no light 5", x.steady(32), -1);
        Check.due("no light 5 beside others", x.steady(63), -1);
        Check.due("below", x.steady(-1), -1);
        Check.due("below", x.steady(Integer.MIN_VALUE), -1);
        x.light(0, 201, 0, 0);
        Check.due("exactly", x.steady(35), 5);
        for (int k = 6; k < 12; k++) {
            x.light(0, 100, 0, 0);
        }
        Check.due("all twelve", x.steady(4095), 3);
        Check.due("more than twelve", x.steady(4096), -1);
    }

    private static void aged() {
        CandleBar x = new CandleBar();
        Check.due("no lights", x.aged(1), 0);
        for (int kind = 0; kind < 8; kind++) {
            x.light(kind, 100, 0, 100);
            x.burn(kind, 100);
        }
        Check.due("glowing by 10, kept by 15", x.aged(10), 16 + 128);
        Check.due("more than 10", x.aged(11), 128);
        Check.due("just 15", x.aged(15), 128);
        Check.due("more than 15", x.aged(16), 0);
        Check.due("no hundredths", x.aged(0), -1);
        Check.due("too many", x.aged(101), -1);
        x.light(4, 3, 0, 100);
        x.burn(8, 10);
        Check.due("one of three is above 33 hundredths", x.aged(33), 256);
        Check.due("and below 34", x.aged(34), 0);
        x.burn(8, 990);
        Check.due("held to 1: two of three", x.aged(66), 256);
        Check.due("held to 1: not more", x.aged(67), 0);
        Check.due("nothing is gone whole", x.aged(100), 0);
        x = new CandleBar();
        x.light(4, 100, 0, 100);
        x.burn(0, 10);
        Check.due("the first light", x.aged(1), 1);
    }

    private static void bills() {
        CandleBar x = new CandleBar();
        x.light(0, 100, 0, 0);
        x.light(0, 155, 0, 0);
        x.standard(0);
        Check.due("first", x.bill(0, 1, 1), 0);
        Check.due("second", x.bill(3, 1, 999), 1);
        Check.due("1 and 55, cut", x.paid(0), 1);
        Check.due("1548 and 45, cut", x.paid(1), 1548);
        rightBy(x, "s-156+(155-s)*3");
        Check.due("-1 by 109", x.worth(1), 0);
        rightBy(x, "s*0-150+(155-s)*5");
        Check.due("-150 by 125", x.worth(1), -120);
        Check.due("below 0", x.bill(1, 1, 9), 2);
        Check.due("-10 and 8 tenths, cut toward 0", x.paid(2), -10);
        Check.due("no bill", x.paid(3), WRONG);
        Check.due("no bill", x.paid(-1), WRONG);
        Check.due("no bill", x.paid(20), WRONG);
    }

    private static void billRefused() {
        CandleBar x = new CandleBar();
        x.light(0, 100, 0, 0);
        Check.due("no standard", x.bill(0, 0, 1), -3);
        Check.due("no light is ahead of no standard", x.bill(0, 1, 1), -1);
        x.standard(0);
        x.image();
        int[][] wrong = {{-1, 0, 1}, {4, 0, 1}, {0, -1, 1}, {0, 1, 1}, {0, 0, 0}, {0, 0, 1000}};
        for (int[] w : wrong) {
            Check.due("not as told", x.bill(w[0], w[1], w[2]), -1);
        }
        Check.due("none", x.count(3), 0);
        for (int k = 0; k < 20; k++) {
            Check.due("bill " + k, x.bill(k % 4, 0, 1 + k), k);
        }
        Check.due("no room", x.bill(0, 0, 1), -2);
        Check.due("wrong is ahead of no room", x.bill(4, 0, 1), -1);
        Check.due("twenty", x.count(3), 20);
        Check.due("the last", x.paid(19), 20);
    }

    private static void owed() {
        CandleBar x = new CandleBar();
        Check.due("no standard", x.owed(0), CANNOT);
        Check.due("wrong is ahead", x.owed(4), WRONG);
        x.light(0, 100, 0, 0);
        x.light(1, 100, 0, 120);
        Check.due("no standard", x.owed(0), CANNOT);
        x.standard(0);
        x.bill(0, 1, 100);
        x.bill(0, 1, 7);
        x.bill(1, 1, 50);
        Check.due("nothing yet", x.owed(0), 0);
        x.setting(1, 180);
        Check.due("half more of 100 and of 7, each cut", x.owed(0), 50 + 3);
        Check.due("half more of 50", x.owed(1), 25);
        Check.due("no bills", x.owed(2), 0);
        Check.due("the last house", x.owed(3), 0);
        x.setting(1, 60);
        Check.due("half less, each cut", x.owed(0), -50 - 4);
        x.standard(1);
        Check.due("as at first", x.owed(0), 0);
        Check.due("paid stays", x.paid(0), 100);
        Check.due("no house", x.owed(-1), WRONG);
        Check.due("no house", x.owed(4), WRONG);
    }
}
