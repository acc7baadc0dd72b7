/** The boundaries that the document names for RULES, STANDARDS and BILLS: Terms 4, promises 22 to 31. */
public final class BoundsOfRulesTest {
    private static final int MIN = Integer.MIN_VALUE;
    private static final int MAX = Integer.MAX_VALUE;
    private static final int SIGNED_WRONG = -1000000001;
    private static final long WRONG = -4000000000000000001L;
    private static final long CANNOT = -4000000000000000003L;
    private static final String LETTERS = "gsthwdy";

    private BoundsOfRulesTest() {
    }

    public static void main(String[] args) {
        termsOfTexts();
        termsOfWorking();
        termsOfStandards();
        termsOfBills();
        promisesOfTexts();
        promisesOfStandards();
        promisesOfBills();
        Document.finish(22, 31);
    }

    private static void termsOfTexts() {
        String part = "Terms 4";
        Document.says(part, "SUM: PRODUCT, and any of + PRODUCT, - PRODUCT behind it", BoundsOfRulesTest::sums);
        Document.says(part, "PRODUCT: ATOM, and any of * ATOM, / ATOM behind it", BoundsOfRulesTest::products);
        Document.says(part, "ATOM: ( SUM ); [ SUM , SUM ] (the lesser);", BoundsOfRulesTest::brackets);
        Document.says(part, "a NUMBER of 1 to 4 digits", BoundsOfRulesTest::fourDigits);
        Document.says(part, "without 0 ahead of others;", BoundsOfRulesTest::noZeroAhead);
        Document.says(part, "g what a LIGHT GIVES, s STRENGTH, t SETTING, h HOURS, w by what it WANDERS, d DAMP, y YELLOW.",
                BoundsOfRulesTest::letters);
        Document.says(part, "( [ together 6 deep at most.", BoundsOfRulesTest::sixDeep);
        Document.says(part, "the place of the first byte with which no RULE can go on", BoundsOfRulesTest::firstByte);
        Document.says(part, "(the size, if it ends too early)", BoundsOfRulesTest::endsTooEarly);
    }

    private static void termsOfWorking() {
        String part = "Terms 4";
        Document.says(part, "from the left.", BoundsOfRulesTest::fromTheLeft);
        Document.says(part, "(/ cut toward 0; by 0: 0)", BoundsOfRulesTest::cutTowardZero);
        Document.says(part, "(the lesser)", BoundsOfRulesTest::theLesser);
        Document.says(part, "All in 32 bits, as machines do.", BoundsOfRulesTest::in32Bits);
        Document.says(part, "One RULE is IN FORCE (at first g).", BoundsOfRulesTest::ruleAtFirst);
    }

    private static void termsOfStandards() {
        String part = "Terms 4";
        Document.says(part, "a LIGHT told (none at first), held to be 100.", BoundsOfRulesTest::standardAtFirst);
        Document.says(part, "PUT RIGHT times 100 by that of the STANDARD, cut toward 0",
                BoundsOfRulesTest::worthIsCut);
        Document.says(part, "(in 64 bits; by 0: 0)", BoundsOfRulesTest::worthIn64Bits);
        Document.says(part, "the one that WANDERS least for what it GIVES (exactly; both times the other)",
                BoundsOfRulesTest::steadyExactly);
        Document.says(part, "both times the other), of several the least.", BoundsOfRulesTest::steadyOfSeveral);
        Document.says(part, "AGED: KEPT, GLOWING ones", BoundsOfRulesTest::agedKinds);
        Document.says(part, "less than it was with HOURS 0 by a told number of hundredths of that or more (bits).",
                BoundsOfRulesTest::agedJust);
    }

    private static void termsOfBills() {
        String part = "Terms 4";
        Document.says(part, "BILLS 0 .. 19:", BoundsOfRulesTest::billNumbers);
        Document.says(part, "a HOUSE (0 .. 3)", BoundsOfRulesTest::houses);
        Document.says(part, "a PRICE (1 .. 999)", BoundsOfRulesTest::prices);
        Document.says(part, "times its WORTH then, by 100, cut toward 0.", BoundsOfRulesTest::paidIsCut);
        Document.says(part, "over its BILLS what would be paid by WORTH now, less what was.", BoundsOfRulesTest::owedOfEach);
        Document.says(part, "what would be paid by WORTH now", BoundsOfRulesTest::owedIn64Bits);
    }

    private static void promisesOfTexts() {
        Document.says("Promise 22", "The FAULT of the text in SHELF d;", BoundsOfRulesTest::faultAtItsEnds);
        Document.says("Promise 22", "-4: it is a RULE.", BoundsOfRulesTest::noFault);
        Document.says("Promise 22", "-1,", () -> textRefused(-1, -1, 8, MIN, MAX));
        Document.says("Promise 22", "-11,", () -> textRefused(-11, 0, 7));
        Document.says("Promise 22", "-12 (no ROW of bytes).", () -> textRefused(-12, 1, 2, 3));
        Document.says("Promise 23", "The text in SHELF d is the RULE IN FORCE: 1.", BoundsOfRulesTest::ruleStays);
        Document.says("Promise 23", "-1,", () -> textRefused(-1, -1, 8, MIN, MAX));
        Document.says("Promise 23", "-11,", () -> textRefused(-11, 0, 7));
        Document.says("Promise 23", "-12,", () -> textRefused(-12, 1, 2, 3));
        Document.says("Promise 23", "-100 less a FAULT.", BoundsOfRulesTest::ruleWithFault);
        Document.says("Promise 24", "PUT RIGHT (it may be any int).", BoundsOfRulesTest::rightIsAnyInt);
        Document.says("Promise 24", "-1000000001.", BoundsOfRulesTest::rightNotAsTold);
    }

    private static void promisesOfStandards() {
        Document.says("Promise 25", "The STANDARD is a LIGHT: which it was (-4).", BoundsOfRulesTest::standardWas);
        Document.says("Promise 25", "-1.", BoundsOfRulesTest::standardNotAsTold);
        Document.says("Promise 26", "WORTH.", BoundsOfRulesTest::worthOfAll);
        Document.says("Promise 26", "-4000000000000000001;", BoundsOfRulesTest::worthNotAsTold);
        Document.says("Promise 26", "-4000000000000000003: no STANDARD.", BoundsOfRulesTest::worthWithoutStandard);
        Document.says("Promise 27", "STEADY of a set of LIGHTS (bits).", BoundsOfRulesTest::steadyAtItsEnds);
        Document.says("Promise 27", "-1 (none).", BoundsOfRulesTest::steadyOfNone);
        Document.says("Promise 28", "AGED by n (1 .. 100) hundredths.", BoundsOfRulesTest::agedAtItsEnds);
        Document.says("Promise 28", "-1.", BoundsOfRulesTest::agedNotAsTold);
    }

    private static void promisesOfBills() {
        Document.says("Promise 29", "A BILL: its number.", BoundsOfRulesTest::billAtItsEnds);
        Document.says("Promise 29", "-1;", BoundsOfRulesTest::billNotAsTold);
        Document.says("Promise 29", "-2;", BoundsOfRulesTest::billWithoutRoom);
        Document.says("Promise 29", "-3: no STANDARD.", BoundsOfRulesTest::billWithoutStandard);
        Document.says("Promise 30", "What was paid by a BILL.", BoundsOfRulesTest::paidStays);
        Document.says("Promise 30", "-4000000000000000001.", BoundsOfRulesTest::paidNotAsTold);
        Document.says("Promise 31", "OWED to a HOUSE.", BoundsOfRulesTest::owedOfMany);
        Document.says("Promise 31", "-4000000000000000001;", BoundsOfRulesTest::owedNotAsTold);
        Document.says("Promise 31", "-4000000000000000003: no STANDARD.", BoundsOfRulesTest::owedWithoutStandard);
    }

    private static void dueFault(String text, int want) {
        CandleBar x = new CandleBar();
        Check.write(x, 0, text);
        Check.due("fault of \"" + text + "\"", x.fault(0), want);
        Check.due("rule \"" + text + "\"", x.rule(0), want == -4 ? 1 : -100 - want);
    }

    /** What a text makes of a LIGHT of STRENGTH 1. */
    private static void dueRight(String text, int want) {
        Check.due("right by " + text, Check.ruled(text, 1).right(0), want);
    }

    private static String many(int times, String text) {
        return text.repeat(times);
    }

    private static void rule(CandleBar x, String text) {
        Check.write(x, 6, text);
        Check.due("rule " + text, x.rule(6), 1);
    }

    // ---- texts

    private static void sums() {
        dueFault("g", -4);
        dueFault("g+s", -4);
        dueFault("g-s+t-h", -4);
        dueFault("g*s+t/h-w", -4);
        dueFault("+g", 0);
        dueFault("-g", 0);
        dueFault("g+-s", 2);
        dueFault("g++s", 2);
        dueFault("g+", 2);
        dueFault("g-", 2);
        dueFault("gs", 1);
    }

    private static void products() {
        dueFault("g*s", -4);
        dueFault("g/s*t/h", -4);
        dueFault("*g", 0);
        dueFault("/g", 0);
        dueFault("g**s", 2);
        dueFault("g*/s", 2);
        dueFault("g*+s", 2);
        dueFault("g*", 2);
        dueFault("g/", 2);
    }

    private static void brackets() {
        dueFault("(g)", -4);
        dueFault("[g,s]", -4);
        dueFault("[g+s*t,h-w/d]", -4);
        dueFault("((g)*[s,(t)])", -4);
        dueFault("(", 1);
        dueFault("()", 1);
        dueFault("(g", 2);
        dueFault("(g]", 2);
        dueFault("(g,s)", 2);
        dueFault("[", 1);
        dueFault("[]", 1);
        dueFault("[,g]", 1);
        dueFault("[g", 2);
        dueFault("[g]", 2);
        dueFault("[g)", 2);
        dueFault("[g,", 3);
        dueFault("[g,]", 3);
        dueFault("[g,s", 4);
        dueFault("[g,s)", 4);
        dueFault("[g,s,t]", 4);
        dueFault(")", 0);
        dueFault("]", 0);
        dueFault(",", 0);
        dueFault("g)", 1);
        dueFault("g,s", 1);
        dueFault("(g)s", 3);
        dueFault("(g)(s)", 3);
        dueFault("[g,s]7", 5);
        dueFault("[(g,s)]", 3);
        dueFault("([g),s]", 3);
    }

    private static void fourDigits() {
        dueFault("1", -4);
        dueFault("12", -4);
        dueFault("123", -4);
        dueFault("1234", -4);
        dueFault("9999", -4);
        dueFault("1000", -4);
        dueFault("12345", 4);
        dueFault("10000", 4);
        dueFault("g+12345", 6);
        dueFault("[9999,99999]", 10);
        dueFault("1 2", 1);
        dueFault("1g", 1);
        dueRight("9999", 9999);
        dueRight("1234", 1234);
        dueRight("1000", 1000);
        dueRight("10", 10);
        dueRight("9", 9);
    }

    private static void noZeroAhead() {
        dueFault("0", -4);
        dueFault("00", 1);
        dueFault("01", 1);
        dueFault("09", 1);
        dueFault("0123", 1);
        dueFault("g-00", 3);
        dueFault("(01)", 2);
        dueFault("[0,01]", 4);
        dueFault("0+0", -4);
        dueFault("[0,0]", -4);
        dueRight("0", 0);
        dueRight("100", 100);
    }

    private static void letters() {
        CandleBar x = new CandleBar();
        x.light(7, 9999, 99, 200);
        x.light(2, 7, 3, 50);
        x.burn(0, 999);
        x.burn(1, 1);
        x.damp(50);
        int[] first = {19998 - 99 - 49, 9999, 200, 999, 10, 50, 99};
        int[] second = {57, 7, 50, 1, 13, 50, 3};
        for (int k = 0; k < LETTERS.length(); k++) {
            rule(x, LETTERS.substring(k, k + 1));
            Check.due("right by " + LETTERS.charAt(k), x.right(0), first[k]);
            Check.due("right by " + LETTERS.charAt(k), x.right(1), second[k]);
        }
        for (int sign = -128; sign <= 127; sign++) {
            Check.fill(x = new CandleBar(), 0, Check.BYTES, sign);
            boolean digit = sign >= '0' && sign <= '9';
            boolean opens = sign == '(' || sign == '[';
            int want = digit || LETTERS.indexOf(sign) >= 0 && sign > 0 ? -4 : opens ? 1 : 0;
            Check.due("fault of the byte " + sign, x.fault(0), want);
        }
    }

    private static void sixDeep() {
        dueFault(many(6, "(") + "g" + many(6, ")"), -4);
        dueFault(many(6, "[") + "g" + many(6, ",g]"), -4);
        dueFault(many(6, "[g,") + "g" + many(6, "]"), -4);
        dueFault("([([([g,1]),2]),3])", -4);
        dueFault(many(7, "("), 6);
        dueFault(many(7, "["), 6);
        dueFault("([([([(", 6);
        dueFault("[([([([", 6);
        dueFault(many(6, "[g,") + "(g)" + many(6, "]"), 18);
        dueFault(many(6, "[g,") + "[g,g]" + many(6, "]"), 18);
        dueFault(many(6, "("), 6);
        dueFault(many(6, "(") + "g" + many(7, ")"), 13);
        String six = many(6, "(") + "g" + many(6, ")");
        dueFault(six + "+" + six, -4);
        dueFault(six + "*" + many(7, "("), 20);
        dueFault(many(5, "(") + "(g)*(g)-[g,(", 16);
        dueFault(many(20, "(g)+") + "g", -4);
        CandleBar x = Check.ruled(six + "-[1," + many(5, "[") + "2" + many(5, ",4]") + "]", 7);
        Check.due("six deep is worked out", x.right(0), 6);
        rule(x, many(6, "[g,") + "3" + many(6, "]"));
        Check.due("six deep at the second place", x.right(0), 3);
        rule(x, "(((((" + "(1)+2)*3)-4)*5)/6)");
        Check.due("six deep, each on its own", x.right(0), 4);
    }

    /** Each text of three signs behind these beginnings is as the literal second writing of the document says. */
    private static void firstByte() {
        String signs = "gh019+-/*()[], ";
        String[] begun = {"", "[g,", "((((((", "[[[[[[g,", "[1,([1,([g,", "123", "g-0", "(g)", "[g,s]"};
        for (String begin : begun) {
            for (int k = 0; k < signs.length() * signs.length(); k++) {
                char first = signs.charAt(k / signs.length());
                char second = signs.charAt(k % signs.length());
                dueFaults(begin + first + second, signs);
            }
        }
    }

    /** All texts that go on with one of these signs, in one object. */
    private static void dueFaults(String begin, String signs) {
        CandleBar x = new CandleBar();
        Check.write(x, 0, begin + "?");
        for (int k = 0; k < signs.length(); k++) {
            String text = begin + signs.charAt(k);
            Check.due("put", x.put(0, begin.length(), signs.charAt(k)), 0);
            Check.due("fault of \"" + text + "\"", x.fault(0), Model.faultOf(text));
        }
    }

    private static void endsTooEarly() {
        dueFault("", 0);
        dueFault("g+", 2);
        dueFault("[g", 2);
        dueFault("[g,1234", 7);
        dueFault(many(6, "("), 6);
        dueFault(many(50, "g*"), 100);
        dueFault("(" + many(49, "g+") + "0", 100);
        dueFault("0" + many(49, "+g") + "-", 100);
        dueFault("10" + many(49, "+g"), -4);
    }

    // ---- what they work out

    private static void fromTheLeft() {
        dueRight("9-5-3", 1);
        dueRight("9-5+3", 7);
        dueRight("9-(5-3)", 7);
        dueRight("100/7/2", 7);
        dueRight("7*3/2*5", 50);
        dueRight("7/2*3*5", 45);
        dueRight("2+3*4", 14);
        dueRight("20-12/4", 17);
        dueRight("(2+3)*4", 20);
        dueRight("1" + many(49, "+1"), 50);
        dueRight("1" + many(49, "-1"), -48);
        dueRight("1" + many(30, "*2"), 1 << 30);
    }

    private static void cutTowardZero() {
        dueRight("7/2", 3);
        dueRight("(0-7)/2", -3);
        dueRight("7/(0-2)", -3);
        dueRight("(0-7)/(0-2)", 3);
        dueRight("1/2", 0);
        dueRight("(0-1)/2", 0);
        dueRight("7/0", 0);
        dueRight("0/0", 0);
        dueRight("(0-7)/(5-5)", 0);
        dueRight("7/0*3+4", 4);
        dueRight("9/(7/0)", 0);
    }

    private static void theLesser() {
        dueRight("[3,4]", 3);
        dueRight("[4,3]", 3);
        dueRight("[3,3]", 3);
        dueRight("[0-1,0-2]", -2);
        dueRight("[8192*8192*32,8192*8192*32-1]", MIN);
        dueRight("[[9,7],[8,6+2]]", 7);
    }

    private static void in32Bits() {
        dueRight("8192*8192*32-1", MAX);
        dueRight("8192*8192*32", MIN);
        dueRight("8192*8192*32-1+1", MIN);
        dueRight("0-8192*8192*32", MIN);
        dueRight("8192*8192*64", 0);
        dueRight("9999*9999*9999*9999", 9999 * 9999 * 9999 * 9999);
        dueRight("8192*8192*32/(0-1)", MIN);
        dueRight("8192*8192*32/(0-1)-1", MAX);
        dueRight("(8192*8192*32-1)/(0-1)", -MAX);
        dueRight("(8192*8192*32-1)*(8192*8192*32-1)", 1);
    }

    private static void ruleAtFirst() {
        CandleBar x = new CandleBar();
        x.light(2, 7, 3, 50);
        Check.due("g", x.right(0), 57);
        x.image();
        rule(x, "s");
        Check.due("s", x.right(0), 7);
        x.restore();
        Check.due("g again", x.right(0), 57);
    }

    // ---- STANDARDS

    private static void standardAtFirst() {
        CandleBar x = Check.lamps(30, 50);
        Check.due("none", x.worth(0), CANNOT);
        Check.due("none before", x.standard(1), -4);
        Check.due("itself", x.worth(1), 100);
        Check.due("another", x.worth(0), 60);
        x = Check.lamps(9999, 1);
        x.standard(0);
        Check.due("the greatest by itself", x.worth(0), 100);
        x.standard(1);
        Check.due("the least by itself", x.worth(1), 100);
    }

    private static void worthIsCut() {
        CandleBar x = Check.lamps(1, 3, 199, 200, 9999);
        x.standard(1);
        Check.due("33 and a third", x.worth(0), 33);
        x.standard(3);
        Check.due("a half", x.worth(0), 0);
        Check.due("99 and a half", x.worth(2), 99);
        x.standard(4);
        Check.due("a hundredth", x.worth(0), 0);
        x.standard(0);
        Check.due("the greatest by the least", x.worth(4), 999900);
        rule(x, "s-2");
        Check.due("197 by -1", x.worth(2), -19700);
        x.standard(2);
        Check.due("-1 by 197, cut toward 0", x.worth(0), 0);
        rule(x, "s-198");
        x.standard(1);
        Check.due("1 by -195, cut toward 0", x.worth(2), 0);
        x.standard(2);
        Check.due("-195 by 1", x.worth(1), -19500);
        rule(x, "(s-2)*(s-2)-3");
        x.standard(1);
        Check.due("-2 by -2", x.worth(0), 100);
    }

    private static void worthIn64Bits() {
        CandleBar x = Check.lamps(1, 2);
        x.standard(0);
        rule(x, "(8192*8192*32-2)*(s-1)+1");
        Check.due("the greatest int by 1", x.worth(1), 214748364700L);
        rule(x, "(8192*8192*32-1)*(s-1)+1");
        Check.due("the least int by 1", x.worth(1), -214748364800L);
        rule(x, "(8192*8192*32+1)*(s-1)-1");
        Check.due("the least int by -1", x.worth(1), 214748364800L);
        rule(x, "8192*8192*32*(s-1)");
        Check.due("the least int by 0", x.worth(1), 0);
        rule(x, "0");
        Check.due("0 by 0", x.worth(0), 0);
        rule(x, "1-s");
        Check.due("-1 by 0", x.worth(1), 0);
        x.standard(1);
        Check.due("0 by -1", x.worth(0), 0);
    }

    private static void steadyExactly() {
        CandleBar x = Check.lamps(9998, 9999);
        Check.due("3 for 9999", x.steady(3), 1);
        x.light(3, 9999, 0, 100);
        Check.due("3 for 9999 as 6 for 19998", x.steady(6), 1);
        x.light(3, 9999, 0, 101);
        Check.due("6 for 20097", x.steady(15), 3);
        x.light(4, 6699, 0, 50);
        Check.due("1 for 3349 as 6 for 20097 isn't", x.steady(24), 3);
        x.setting(4, 51);
        Check.due("1 for 3416 is less", x.steady(24), 4);
        x.light(6, 1, 0, 0);
        Check.due("0 for 1", x.steady(63), 5);
        x.light(7, 1, 0, 0);
        for (int k = 0; k < 102; k++) {
            x.burn(6, 980);
        }
        Check.due("it wanders by 1000", x.of(6, 6), 1000);
        Check.due("for 1", x.of(6, 5), 1);
        Check.due("beside all others", x.steady(127), 5);
        Check.due("alone", x.steady(64), 6);
    }

    private static void steadyOfSeveral() {
        CandleBar x = Check.lamps(100, 100, 200, 200);
        Check.due("the first two are alike", x.steady(3), 0);
        Check.due("the last two are alike", x.steady(15), 2);
        Check.due("the first is steadier than a later one", Check.lamps(200, 100, 100).steady(7), 0);
        x.light(3, 400, 0, 0);
        Check.due("3 for 200 as 6 for 400", x.steady(31), 2);
        Check.due("6 for 400 as 3 for 200", x.steady(24), 3);
        x.light(6, 1, 0, 0);
        x.light(6, 9999, 0, 0);
        Check.due("two metals", x.steady(127), 5);
    }

    private static void agedKinds() {
        CandleBar x = new CandleBar();
        for (int kind = 0; kind <= 7; kind++) {
            x.light(kind, 100, 0, 100);
        }
        Check.due("none burnt", x.aged(1), 0);
        for (int kind = 0; kind <= 7; kind++) {
            x.burn(kind, 500);
        }
        Check.due("glowing and kept ones", x.aged(1), 16 + 128);
        x.damp(50);
        Check.due("damp ages none", x.aged(1), 16 + 128);
    }

    private static void agedJust() {
        CandleBar x = new CandleBar();
        x.light(4, 100, 0, 100);
        x.light(7, 100, 0, 100);
        x.light(4, 1, 0, 100);
        x.burn(0, 9);
        x.burn(1, 9);
        Check.due("9 hours", x.aged(1), 0);
        x.burn(0, 1);
        x.burn(1, 1);
        Check.due("10 hours: 1 of 100", x.aged(1), 3);
        Check.due("not 2", x.aged(2), 0);
        x.burn(0, 10);
        x.burn(1, 10);
        Check.due("20 hours: 2 and 3 of 100", x.aged(2), 3);
        Check.due("3 of 100", x.aged(3), 2);
        x.burn(2, 999);
        Check.due("1 of 1 is held", x.aged(1), 3);
        x.burn(0, 970);
        Check.due("99 of 100", x.aged(99), 1);
        x.burn(0, 999);
        Check.due("held to 1: 99 of 100", x.aged(99), 1);
        Check.due("never all", x.aged(100), 0);
        x.setting(0, 200);
        Check.due("fresh it would give 200 now: 198 of 200", x.aged(99), 1);
        x.setting(0, 0);
        Check.due("fresh it would give 1 now", x.aged(1), 2);
        x.light(4, 200, 0, 100);
        x.burn(3, 30);
        Check.due("3 of 200 are more than 1 hundredth", x.aged(1), 2 + 8);
        Check.due("and fewer than 2", x.aged(2), 2);
        x = new CandleBar();
        x.light(4, 9999, 0, 200);
        x.burn(0, 999);
        x.burn(0, 991);
        Check.due("199 of 19998 are just too few", x.aged(1), 0);
        x.burn(0, 10);
        Check.due("200 of 19998", x.aged(1), 1);
    }

    // ---- BILLS

    private static CandleBar ready(int... strengths) {
        CandleBar x = Check.lamps(strengths);
        Check.due("standard", x.standard(0), -4);
        return x;
    }

    private static void billNumbers() {
        CandleBar x = ready(100);
        for (int k = 0; k <= 19; k++) {
            Check.due("count", x.count(3), k);
            Check.due("not there yet", x.paid(k), WRONG);
            Check.due("bill", x.bill(k % 4, 0, 40 + k), k);
            Check.due("it is there", x.paid(k), 40 + k);
        }
        Check.due("no bill 20", x.paid(20), WRONG);
    }

    private static void houses() {
        CandleBar x = ready(100, 200);
        Check.due("house -1", x.bill(-1, 0, 1), -1);
        for (int house = 0; house <= 3; house++) {
            Check.due("house " + house, x.bill(house, 0, 10 + house), house);
        }
        Check.due("house 4", x.bill(4, 0, 1), -1);
        x.standard(1);
        for (int house = 0; house <= 3; house++) {
            Check.due("half of it", x.owed(house), (10 + house) / 2 - 10 - house);
        }
        Check.due("no house 4", x.owed(4), WRONG);
        Check.due("no house -1", x.owed(-1), WRONG);
    }

    private static void prices() {
        CandleBar x = ready(100);
        Check.due("price 0", x.bill(0, 0, 0), -1);
        Check.due("price 1", x.bill(0, 0, 1), 0);
        Check.due("price 999", x.bill(0, 0, 999), 1);
        Check.due("price 1000", x.bill(0, 0, 1000), -1);
        Check.due("paid by 1", x.paid(0), 1);
        Check.due("paid by 999", x.paid(1), 999);
    }

    private static void paidIsCut() {
        CandleBar x = ready(100, 99, 199, 1);
        x.bill(0, 1, 1);
        x.bill(0, 1, 999);
        x.bill(0, 2, 1);
        x.bill(0, 3, 99);
        x.bill(0, 3, 100);
        long[] want = {0, 989, 1, 0, 1};
        for (int k = 0; k < want.length; k++) {
            Check.due("paid by " + k, x.paid(k), want[k]);
        }
        rule(x, "100-(100-s)*2");
        Check.due("-98 by 100", x.worth(3), -98);
        x.bill(0, 3, 1);
        Check.due("-98 hundredths, cut toward 0", x.paid(5), 0);
        x.bill(0, 3, 999);
        Check.due("-979 and 2 hundredths, cut toward 0", x.paid(6), -979);
        x = ready(1, 2);
        rule(x, "(8192*8192*32+1)*(s-1)-1");
        x.bill(3, 1, 999);
        Check.due("999 times the greatest worth, in 64 bits", x.paid(0), 2145336164352L);
    }

    private static void owedOfEach() {
        CandleBar x = ready(100, 100);
        for (int price = 1; price <= 5; price += 2) {
            x.bill(2, 1, price);
        }
        x.bill(1, 1, 3);
        Check.due("nothing yet", x.owed(2), 0);
        rule(x, "g+g/2*[d,1]");
        x.damp(1);
        Check.due("all by the same", x.owed(2), 0);
        x = new CandleBar();
        x.light(6, 100, 0, 0);
        x.light(1, 100, 0, 120);
        x.standard(0);
        for (int price = 1; price <= 5; price += 2) {
            x.bill(2, 1, price);
        }
        x.setting(1, 180);
        Check.due("half more, each cut: 0, 1 and 2", x.owed(2), 3);
        x.setting(1, 60);
        Check.due("half less, each cut: 0, 1 and 2 are left", x.owed(2), 3 - 9);
        x.setting(1, 0);
        Check.due("a hundredth: nothing is left", x.owed(2), -9);
        rule(x, "0");
        Check.due("no worth", x.owed(2), -9);
        rule(x, "s-200+(120-t)");
        x.setting(1, 80);
        Check.due("-60 by 20", x.worth(1), -300);
        Check.due("-3, -9, -15, less 9", x.owed(2), -36);
    }

    // ---- promises 22 to 24

    private static void faultAtItsEnds() {
        CandleBar x = new CandleBar();
        Check.write(x, 0, "*");
        Check.due("the first byte, the first shelf", x.fault(0), 0);
        Check.write(x, 7, many(49, "g+") + "gg");
        Check.due("the last byte, the last shelf", x.fault(7), 99);
        Check.write(x, 7, many(50, "g-"));
        Check.due("behind the last byte", x.fault(7), 100);
        Check.fill(x, 3, Check.BYTES, 256 + 'g', 256 + '+');
        Check.due("bytes keep their lowest bits", x.fault(3), 2);
        Check.due("a row of zeros", x.row(3, Check.BYTES, 1) + x.fault(3), 0);
        Check.due("an empty row", x.row(3, Check.BYTES, 0) + x.fault(3), 0);
    }

    private static void noFault() {
        CandleBar x = new CandleBar();
        Check.write(x, 0, "g");
        Check.due("one byte", x.fault(0), -4);
        Check.due("asked again", x.fault(0), -4);
        x.put(0, 0, '!');
        Check.due("changed", x.fault(0), 0);
    }

    private static void textRefused(int want, int... shelves) {
        CandleBar x = Check.lamps(1);
        x.keep(1, 1, 0);
        x.row(2, Check.SHORTS, 1);
        x.put(2, 0, 'g');
        x.row(3, Check.INTS, 1);
        x.put(3, 0, 'g');
        for (int d : shelves) {
            Check.due("fault(" + d + ")", x.fault(d), want);
            Check.due("rule(" + d + ")", x.rule(d), want);
        }
        Check.due("the rule is as it was", x.right(0), 1);
    }

    private static void ruleStays() {
        CandleBar x = Check.lamps(41);
        Check.write(x, 7, "s+1");
        Check.due("the last shelf", x.rule(7), 1);
        Check.due("again", x.rule(7), 1);
        x.put(7, 2, '2');
        Check.due("the row may change", x.right(0), 42);
        x.row(7, Check.INTS, 1);
        Check.due("or be another", x.right(0), 42);
        x.keep(7, 0, 0);
        Check.due("or be gone", x.right(0), 42);
        Check.write(x, 0, "0" + many(49, "+s") + "");
        Check.due("a long one", x.rule(0), 1);
        Check.due("by it", x.right(0), 49 * 41);
        Check.write(x, 0, "7");
        Check.due("a short one behind it", x.rule(0), 1);
        Check.due("nothing is left of the long one", x.right(0), 7);
    }

    private static void ruleWithFault() {
        CandleBar x = Check.ruled("s+1", 41);
        String[] texts = {"", "+", "s+", "s+1)", many(50, "s+")};
        int[] want = {-100, -100, -102, -103, -200};
        for (int k = 0; k < texts.length; k++) {
            Check.write(x, 0, texts[k]);
            Check.due("rule " + texts[k], x.rule(0), want[k]);
            Check.due("as it was", x.right(0), 42);
        }
    }

    private static void rightIsAnyInt() {
        dueRight("8192*8192*32", MIN);
        dueRight("8192*8192*32-1", MAX);
        dueRight("0-1", -1);
        dueRight("0-4", -4);
        dueRight("0-1000*1000*1000-1", SIGNED_WRONG);
    }

    private static void rightNotAsTold() {
        CandleBar x = Check.ruled("0-1", 1, 1);
        for (int light : new int[] {-1, 2, 12, MIN, MAX}) {
            Check.due("right(" + light + ")", x.right(light), SIGNED_WRONG);
        }
        Check.due("the last light", x.right(1), -1);
        Check.due("no lights", new CandleBar().right(0), SIGNED_WRONG);
    }

    // ---- promises 25 to 28

    private static void standardWas() {
        CandleBar x = new CandleBar();
        for (int k = 0; k <= 11; k++) {
            x.light(0, 1, 0, 0);
        }
        Check.due("none", x.standard(11), -4);
        Check.due("11", x.standard(0), 11);
        Check.due("0", x.standard(0), 0);
        Check.due("0 again", x.standard(11), 0);
    }

    private static void standardNotAsTold() {
        CandleBar x = Check.lamps(1, 1);
        for (int light : new int[] {-1, 2, 12, -4, MIN, MAX}) {
            Check.due("standard(" + light + ")", x.standard(light), -1);
        }
        Check.due("still none", x.worth(0), CANNOT);
        Check.due("none before", x.standard(1), -4);
        Check.due("refused", x.standard(2), -1);
        Check.due("as it was", x.standard(0), 1);
        Check.due("no lights", new CandleBar().standard(0), -1);
    }

    private static void worthOfAll() {
        CandleBar x = new CandleBar();
        for (int k = 0; k <= 11; k++) {
            x.light(0, 100 * (k + 1), 0, 0);
        }
        x.standard(0);
        for (int k = 0; k <= 11; k++) {
            Check.due("by the first", x.worth(k), 100 * (k + 1));
        }
        x.standard(11);
        for (int k = 0; k <= 11; k++) {
            Check.due("by the last", x.worth(k), 100 * (k + 1) / 12);
        }
    }

    private static void worthNotAsTold() {
        CandleBar x = Check.lamps(1, 1);
        for (int pass = 0; pass < 2; pass++) {
            for (int light : new int[] {-1, 2, 12, MIN, MAX}) {
                Check.due("worth(" + light + ")", x.worth(light), WRONG);
            }
            x.standard(0);
        }
    }

    private static void worthWithoutStandard() {
        CandleBar x = Check.lamps(1, 1);
        Check.due("none", x.worth(0), CANNOT);
        Check.due("none for the last light", x.worth(1), CANNOT);
        x.image();
        x.standard(0);
        Check.due("one", x.worth(1), 100);
        x.restore();
        Check.due("none again", x.worth(1), CANNOT);
    }

    private static void steadyAtItsEnds() {
        CandleBar x = new CandleBar();
        for (int k = 0; k <= 11; k++) {
            x.light(0, 100, 0, 0);
            Check.due("alone", x.steady(1 << k), k);
            Check.due("all so far", x.steady((2 << k) - 1), 0);
        }
        Check.due("the last two", x.steady(3072), 10);
        Check.due("the first and the last", x.steady(2049), 0);
    }

    private static void steadyOfNone() {
        CandleBar x = Check.lamps(1, 1);
        Check.due("an empty set", x.steady(0), -1);
        for (int set : new int[] {4, 5, 7, 8, 4096, -1, MIN, MAX, MIN + 1}) {
            Check.due("one that isn't there: " + set, x.steady(set), -1);
        }
        Check.due("without lights", new CandleBar().steady(1), -1);
        Check.due("an empty set of none", new CandleBar().steady(0), -1);
        x = new CandleBar();
        for (int k = 0; k <= 11; k++) {
            x.light(0, 100, 0, 0);
        }
        Check.due("no light 12", x.steady(4096), -1);
        Check.due("no light 12 beside all", x.steady(8191), -1);
    }

    private static void agedAtItsEnds() {
        CandleBar x = new CandleBar();
        Check.due("without lights", x.aged(1), 0);
        for (int k = 0; k <= 11; k++) {
            x.light(k % 2 == 0 ? 4 : 7, 100, 0, 100);
            x.burn(k, 100);
        }
        Check.due("by 1: all twelve", x.aged(1), 4095);
        Check.due("by 10", x.aged(10), 4095);
        Check.due("by 11: kept ones", x.aged(11), 2730);
        Check.due("by 15", x.aged(15), 2730);
        Check.due("by 16", x.aged(16), 0);
        Check.due("by 100", x.aged(100), 0);
    }

    private static void agedNotAsTold() {
        CandleBar x = Check.lamps(1);
        for (int n : new int[] {0, -1, 101, MIN, MAX}) {
            Check.due("aged(" + n + ")", x.aged(n), -1);
        }
    }

    // ---- promises 29 to 31

    private static void billAtItsEnds() {
        CandleBar x = new CandleBar();
        for (int k = 0; k <= 11; k++) {
            x.light(0, 100 * (k + 1), 0, 0);
        }
        x.standard(11);
        Check.due("all least", x.bill(0, 0, 1), 0);
        Check.due("all greatest", x.bill(3, 11, 999), 1);
        Check.due("8 hundredths", x.paid(0), 0);
        Check.due("999", x.paid(1), 999);
    }

    private static void billNotAsTold() {
        CandleBar x = ready(100, 100);
        int[][] wrong = {
            {-1, 0, 1}, {4, 0, 1}, {MIN, 0, 1}, {MAX, 0, 1}, {0, -1, 1}, {0, 2, 1}, {0, 12, 1}, {0, MIN, 1}, {0, MAX, 1},
            {0, 0, 0}, {0, 0, 1000}, {0, 0, -1}, {0, 0, MIN}, {0, 0, MAX}, {4, 2, 1000},
        };
        for (int[] w : wrong) {
            Check.due("bill(" + w[0] + ", " + w[1] + ", " + w[2] + ")", x.bill(w[0], w[1], w[2]), -1);
        }
        Check.due("none came", x.count(3), 0);
    }

    private static void billWithoutRoom() {
        CandleBar x = ready(100);
        for (int k = 0; k <= 19; k++) {
            Check.due("there is room", x.bill(0, 0, 1 + k), k);
        }
        Check.due("no room", x.bill(0, 0, 1), -2);
        Check.due("no room for another house", x.bill(3, 0, 1), -2);
        Check.due("not as told is ahead of no room", x.bill(4, 0, 1), -1);
        Check.due("twenty", x.count(3), 20);
        Check.due("the last is as it was", x.paid(19), 20);
    }

    private static void billWithoutStandard() {
        CandleBar x = Check.lamps(100);
        Check.due("no standard", x.bill(0, 0, 1), -3);
        Check.due("not as told is ahead of it", x.bill(0, 1, 1), -1);
        Check.due("none came", x.count(3), 0);
        x.standard(0);
        Check.due("now it comes", x.bill(0, 0, 1), 0);
    }

    private static void paidStays() {
        CandleBar x = ready(100, 200);
        x.bill(0, 1, 100);
        Check.due("paid", x.paid(0), 200);
        x.standard(1);
        rule(x, "0");
        Check.due("paid all the same", x.paid(0), 200);
    }

    private static void paidNotAsTold() {
        CandleBar x = ready(100);
        Check.due("none yet", x.paid(0), WRONG);
        x.bill(0, 0, 5);
        for (int bill : new int[] {-1, 1, 20, MIN, MAX}) {
            Check.due("paid(" + bill + ")", x.paid(bill), WRONG);
        }
    }

    private static void owedOfMany() {
        CandleBar x = ready(100, 200, 300);
        Check.due("no bills", x.owed(0), 0);
        for (int k = 0; k <= 19; k++) {
            x.bill(3, 1 + k % 2, 10);
        }
        Check.due("twenty, nothing yet", x.owed(3), 0);
        x.standard(1);
        Check.due("ten by 100 now, ten by 150, paid by 200 and 300", x.owed(3), 10 * (10 + 15) - 10 * (20 + 30));
        Check.due("the other houses", x.owed(0) + x.owed(1) + x.owed(2), 0);
        rule(x, "g*100");
        Check.due("by a hundred times as much it is as it was", x.owed(3), 10 * (10 + 15) - 10 * (20 + 30));
        rule(x, "g*g");
        x.standard(0);
        Check.due("ten by 400, ten by 900 now", x.owed(3), 10 * (40 + 90) - 10 * (20 + 30));
        rule(x, "0-g*g");
        Check.due("both below 0 come to the same", x.owed(3), 10 * (40 + 90) - 10 * (20 + 30));
    }

    private static void owedIn64Bits() {
        CandleBar x = ready(1, 2);
        x.bill(3, 1, 999);
        Check.due("200 by 999", x.paid(0), 1998);
        rule(x, "(8192*8192*32+1)*(s-1)-1");
        Check.due("999 times the greatest worth, less what was", x.owed(3), 2145336164352L - 1998);
        rule(x, "(8192*8192*32-1)*(s-1)+1");
        Check.due("999 times the least worth, less what was", x.owed(3), -2145336164352L - 1998);
    }

    private static void owedNotAsTold() {
        CandleBar x = Check.lamps(100);
        for (int pass = 0; pass < 2; pass++) {
            for (int house : new int[] {-1, 4, MIN, MAX}) {
                Check.due("owed(" + house + ")", x.owed(house), WRONG);
            }
            x.standard(0);
        }
    }

    private static void owedWithoutStandard() {
        CandleBar x = Check.lamps(100);
        for (int house = 0; house <= 3; house++) {
            Check.due("no standard", x.owed(house), CANNOT);
        }
        x.standard(0);
        Check.due("a standard, no bills", x.owed(3), 0);
    }
}
