/** What the tests share: comparing answers, and writing ROWS. */
final class Check {
    static final int BYTES = 0;
    static final int SHORTS = 1;
    static final int INTS = 2;
    /** The refusals of calls whose answers may be below 0, without the refusal's own number. */
    static final int OF_SIGNED = -1000000000;
    static final long OF_LONGS = -4000000000000000000L;

    private static int asked = 0;
    private static int wrong = 0;

    private Check() {
    }

    static void due(String call, long got, long want) {
        asked++;
        if (got != want) {
            wrong++;
            System.out.println(call + " answered " + got + ", due is " + want);
        }
    }

    static int asked() {
        return asked;
    }

    static int wrong() {
        return wrong;
    }

    static void isTrue(String what, boolean holds) {
        due(what, holds ? 1 : 0, 1);
    }

    /** Element i of SHELF d; the exceptions that the document names are told apart. */
    static String element(CandleBar x, int d, int i) {
        try {
            return Long.toString(x.element(d, i));
        } catch (IllegalArgumentException e) {
            return "IllegalArgumentException";
        } catch (IllegalStateException e) {
            return "IllegalStateException";
        }
    }

    static void dueElement(CandleBar x, int d, int i, String want) {
        String got = element(x, d, i);
        if (!got.equals(want)) {
            System.out.println("element(" + d + ", " + i + ") answered " + got + ", due is " + want);
        }
        due("element(" + d + ", " + i + ") is as due", got.equals(want) ? 1 : 0, 1);
    }

    /** Puts a ROW with these elements into a SHELF. */
    static void fill(CandleBar x, int d, int sort, int... elements) {
        due("row(" + d + ", " + sort + ", " + elements.length + ")", x.row(d, sort, elements.length), 0);
        for (int i = 0; i < elements.length; i++) {
            due("put(" + d + ", " + i + ", " + elements[i] + ")", x.put(d, i, elements[i]), 0);
        }
    }

    /** Puts a text into a SHELF as a ROW of bytes. */
    static void write(CandleBar x, int d, String text) {
        int[] signs = new int[text.length()];
        for (int i = 0; i < signs.length; i++) {
            signs[i] = text.charAt(i);
        }
        fill(x, d, BYTES, signs);
    }

    /** A new object with LIGHTS of KIND 0, of these strengths, half yellow. */
    static CandleBar lamps(int... strengths) {
        CandleBar x = new CandleBar();
        for (int k = 0; k < strengths.length; k++) {
            due("light " + k, x.light(0, strengths[k], 50, 1), k);
        }
        return x;
    }

    /** A new object with this RULE IN FORCE, and one LIGHT of KIND 0 for each strength. */
    static CandleBar ruled(String rule, int... strengths) {
        CandleBar x = lamps(strengths);
        write(x, 7, rule);
        due("rule " + rule, x.rule(7), 1);
        return x;
    }

    /** Tells one MATCH by a ROW of ints in SHELF 7: how many came. */
    static int tell(CandleBar x, int a, int b, int eye, int place, int night) {
        fill(x, 7, INTS, a, b, eye, place, night);
        return x.hear(7);
    }

    static void finish() {
        System.out.println(asked + " answers, " + wrong + " of them not as due");
        if (asked == 0 || wrong != 0) {
            System.exit(1);
        }
    }
}
