import java.util.Random;

/** Many runs of up to 512 calls, the same ones each time, in which the class and the Model must agree. */
public final class RandomRunsTest {
    private static final int RUNS = 600;
    /** Writing a text takes up to 46 calls at once; what calls answer beyond the 512th is free. */
    private static final int CALLS = 512 - 46;
    private static final String SIGNS = "gsthwdy0123456789+-*/()[],";

    private final Random dice;
    private final CandleBar x = new CandleBar();
    private final Model m = new Model();
    private final int run;

    private RandomRunsTest(int run) {
        this.run = run;
        this.dice = new Random(1000 + run);
    }

    public static void main(String[] args) {
        for (int run = 0; run < RUNS; run++) {
            new RandomRunsTest(run).play();
        }
        Check.finish();
    }

    private void play() {
        int calls = 0;
        // Some runs begin with many lights, so that all that wants two of them comes up soon.
        for (int k = dice.nextInt(13); k > 0; k--) {
            light();
            calls++;
        }
        if (run % 3 == 0) {
            calls += fillUp();
        }
        while (calls < CALLS) {
            calls += call();
        }
    }

    /** Some runs begin with so much that there is hardly room for more; how many calls it took. */
    private int fillUp() {
        int matches = dice.nextInt(31);
        int bills = dice.nextInt(21);
        int light = aLight();
        same("standard", x.standard(light), m.standard(light));
        for (int k = 0; k < matches; k++) {
            int a = aLight();
            int b = aLight();
            int eye = any(0, 7);
            same("match", x.match(a, b, eye, k), m.match(a, b, eye, k));
        }
        for (int k = 0; k < bills; k++) {
            int of = aLight();
            int price = any(1, 999);
            same("bill", x.bill(k % 4, of, price), m.bill(k % 4, of, price));
        }
        return matches + bills + 1;
    }

    /** A number of the range, now and then one of its ends, one just beyond, or any. */
    private int any(int least, int most) {
        switch (dice.nextInt(40)) {
            case 0: return least - 1;
            case 1: return most + 1;
            case 2: return least;
            case 3: return most;
            case 4: return dice.nextInt(10) == 0 ? dice.nextInt() : least;
            default: return least + dice.nextInt(most - least + 1);
        }
    }

    private int aLight() {
        return any(0, Math.max(0, m.count(0) - 1));
    }

    private int aMatch() {
        return any(0, Math.max(0, m.count(1) - 1));
    }

    private void same(String call, long got, long want) {
        Check.due("run " + run + ": " + call, got, want);
    }

    private void light() {
        int kind = any(0, 7);
        int strength = dice.nextInt(3) == 0 ? any(1, 9999) : any(1, 300);
        int yellow = any(0, 100);
        int setting = any(0, 200);
        same("light", x.light(kind, strength, yellow, setting), m.light(kind, strength, yellow, setting));
    }

    /** One thing or another; how many calls it took. */
    private int call() {
        switch (dice.nextInt(6)) {
            case 0: return lightCall();
            case 1: return eyeCall();
            case 2: return lawCall();
            case 3: return ruleCall();
            case 4: return otherCall();
            default: return shelfCall();
        }
    }

    private int lightCall() {
        int light = aLight();
        switch (dice.nextInt(8)) {
            case 0:
                if (dice.nextInt(3) == 0) {
                    light();
                }
                return 1;
            case 1: {
                int n = any(0, 200);
                same("setting", x.setting(light, n), m.setting(light, n));
                return 1;
            }
            case 2:
            case 3: {
                int n = any(1, 999);
                same("burn", x.burn(light, n), m.burn(light, n));
                return 1;
            }
            case 4: {
                int n = any(0, 50);
                same("damp", x.damp(n), m.damp(n));
                return 1;
            }
            default: {
                int what = any(0, 6);
                same("of", x.of(light, what), m.of(light, what));
                return 1;
            }
        }
    }

    private int eyeCall() {
        int a = aLight();
        int b = aLight();
        int eye = any(0, 7);
        int dim = any(0, 9);
        switch (dice.nextInt(9)) {
            case 0: {
                int what = any(0, 2);
                int n = what == 2 ? any(0, 20) : any(1, 200);
                same("eye", x.eye(eye, what, n), m.eye(eye, what, n));
                return 1;
            }
            case 1:
                same("seen", x.seen(a, eye, dim), m.seen(a, eye, dim));
                return 1;
            case 2:
                same("alike", x.alike(a, b, eye, dim), m.alike(a, b, eye, dim));
                return 1;
            case 3: {
                int night = any(0, 999);
                same("match", x.match(a, b, eye, night), m.match(a, b, eye, night));
                return 1;
            }
            case 4: {
                int what = any(0, 5);
                int match = aMatch();
                same("told", x.told(match, what), m.told(match, what));
                return 1;
            }
            case 5: {
                int match = aMatch();
                boolean is = dice.nextBoolean();
                same("out", x.out(match, is), m.out(match, is));
                return 1;
            }
            case 6:
            case 7: {
                int i = any(-1, 4);
                same("chain", x.chain(a, b, i), m.chain(a, b, i));
                return 1;
            }
            default: {
                int what = any(0, 2);
                int part = any(0, 1);
                same("span", x.span(a, b, what, part), m.span(a, b, what, part));
                return 1;
            }
        }
    }

    private int lawCall() {
        int a = aLight();
        int b = aLight();
        int eye = any(0, 7);
        int slip = dice.nextInt(4) == 0 ? any(0, 50) : any(0, 9);
        int set = any(1, 255);
        switch (dice.nextInt(8)) {
            case 0: {
                int i = any(-1, 400);
                same("laws", x.laws(eye, slip, i), m.laws(eye, slip, i));
                return 1;
            }
            case 1:
                same("laws, all", x.laws(eye, slip, -1), m.laws(eye, slip, -1));
                return 1;
            case 2:
                same("parts", x.parts(eye, slip, a, b), m.parts(eye, slip, a, b));
                return 1;
            case 3:
                if (dice.nextInt(8) == 0) {
                    same("show", x.show(eye, slip), m.show(eye, slip));
                }
                return 1;
            case 4:
            case 5: {
                int second = any(0, 7);
                int dim = any(0, 9);
                same("disagree", x.disagree(eye, second, a, b, dim), m.disagree(eye, second, a, b, dim));
                return 1;
            }
            case 6: {
                int what = any(0, 2);
                same("mean", x.mean(set, what), m.mean(set, what));
                return 1;
            }
            default:
                same("stands", x.stands(set, a, b), m.stands(set, a, b));
                return 1;
        }
    }

    private int ruleCall() {
        int light = aLight();
        switch (dice.nextInt(12)) {
            case 0:
                return text();
            case 1:
                same("right", x.right(light), m.right(light));
                return 1;
            case 2: {
                int which = dice.nextInt(4) == 0 ? light : -1;
                same("standard", x.standard(which), m.standard(which));
                return 1;
            }
            case 3:
                same("worth", x.worth(light), m.worth(light));
                return 1;
            case 4: {
                int set = any(0, (1 << m.count(0)) - 1);
                same("steady", x.steady(set), m.steady(set));
                return 1;
            }
            case 5: {
                int n = any(1, 100);
                same("aged", x.aged(n), m.aged(n));
                return 1;
            }
            case 6: {
                int house = any(0, 3);
                int price = any(1, 999);
                same("bill", x.bill(house, light, price), m.bill(house, light, price));
                return 1;
            }
            case 7: {
                int bill = any(0, Math.max(0, m.count(3) - 1));
                same("paid", x.paid(bill), m.paid(bill));
                return 1;
            }
            case 8: {
                int house = any(0, 3);
                same("owed", x.owed(house), m.owed(house));
                return 1;
            }
            case 9: {
                int d = any(0, 7);
                same("fault", x.fault(d), m.fault(d));
                return 1;
            }
            default: {
                int d = any(0, 7);
                same("rule", x.rule(d), m.rule(d));
                return 1;
            }
        }
    }

    private String atom(int depth) {
        switch (dice.nextInt(depth < 4 ? 5 : 3)) {
            case 0: return "" + dice.nextInt(dice.nextBoolean() ? 12 : 10000);
            case 1:
            case 2: return "" + SIGNS.charAt(dice.nextInt(7));
            case 3: return "(" + sum(depth + 1) + ")";
            default: return "[" + sum(depth + 1) + "," + sum(depth + 1) + "]";
        }
    }

    private String sum(int depth) {
        StringBuilder text = new StringBuilder(atom(depth));
        for (int k = dice.nextInt(3); k > 0; k--) {
            text.append("+-*/".charAt(dice.nextInt(4))).append(atom(depth));
        }
        return text.toString();
    }

    /** Writes a text, often a RULE, sometimes one with a sign changed, and asks for its FAULT. */
    private int text() {
        StringBuilder text = new StringBuilder(sum(0));
        text.setLength(Math.min(text.length(), 40));
        if (dice.nextInt(3) == 0) {
            text.setCharAt(dice.nextInt(text.length()), SIGNS.charAt(dice.nextInt(SIGNS.length())));
        }
        int d = dice.nextInt(8);
        same("row", x.row(d, 0, text.length()), m.row(d, 0, text.length()));
        for (int i = 0; i < text.length(); i++) {
            same("put", x.put(d, i, text.charAt(i)), m.put(d, i, text.charAt(i)));
        }
        same("fault of " + text, x.fault(d), m.fault(d));
        same("rule " + text, x.rule(d), m.rule(d));
        for (int k = 0; k < 3; k++) {
            int light = aLight();
            same("right by " + text, x.right(light), m.right(light));
        }
        return text.length() + 6;
    }

    private int otherCall() {
        int costs = dice.nextInt(6) == 0 ? any(0, 999999) : 1000 * any(500, 520) + any(480, 510);
        int fine = dice.nextInt(3) == 0 ? any(0, 9999) : any(0, 60);
        switch (dice.nextInt(9)) {
            case 0:
            case 1: {
                boolean lot = dice.nextBoolean();
                int days = lot ? any(0, 7) : any(0, 127);
                int well = any(0, 127);
                same("gain", x.gain(well, costs, fine, days, lot), m.gain(well, costs, fine, days, lot));
                return 1;
            }
            case 2: {
                int days = any(0, 127);
                same("best", x.best(costs, fine, days, 0), m.best(costs, fine, days, 0));
                return 1;
            }
            case 3: {
                int what = any(0, 1);
                if (dice.nextInt(8) == 0) {
                    same("enough", x.best(costs, fine, 0, what), m.best(costs, fine, 0, what));
                }
                return 1;
            }
            case 4:
            case 5:
                same("narrows", x.narrows(), m.narrows());
                return 1;
            case 6:
                if (dice.nextInt(6) == 0) {
                    same("image", x.image(), m.image());
                }
                return 1;
            case 7:
                if (dice.nextInt(8) == 0) {
                    same("restore", x.restore(), m.restore());
                }
                return 1;
            default: {
                int what = any(0, 5);
                same("count", x.count(what), m.count(what));
                return 1;
            }
        }
    }

    /** Tells some MATCHES, most of them good. */
    private int tell() {
        int d = dice.nextInt(8);
        int sort = dice.nextInt(3);
        int many = 5 * dice.nextInt(5) + dice.nextInt(2);
        same("row", x.row(d, sort, many), m.row(d, sort, many));
        for (int i = 0; i < many; i++) {
            int v = i % 5 < 2 ? aLight() : i % 5 == 2 ? any(0, 7) : i % 5 == 3 ? any(1, 99) : any(0, 99);
            int least = new int[] {-128, -32768, Integer.MIN_VALUE}[sort];
            int put = dice.nextInt(40) == 0 ? least : v;
            same("put", x.put(d, i, put), m.put(d, i, put));
        }
        same("hear", x.hear(d), m.hear(d));
        return many + 2;
    }

    private int shelfCall() {
        int d = any(0, 7);
        int i = any(0, dice.nextInt(20));
        switch (dice.nextInt(10)) {
            case 0: {
                int what = any(0, 1);
                int k = aLight();
                same("keep", x.keep(d, what, k), m.keep(d, what, k));
                return 1;
            }
            case 1: {
                int sort = any(0, 2);
                int n = dice.nextInt(3) == 0 ? any(0, 100) : any(0, 20);
                same("row", x.row(d, sort, n), m.row(d, sort, n));
                return 1;
            }
            case 2: {
                int v = dice.nextBoolean() ? any(-200, 200) : dice.nextInt();
                same("put", x.put(d, i, v), m.put(d, i, v));
                return 1;
            }
            case 3:
                same("element", Check.element(x, d, i).equals(m.element(d, i)) ? 1 : 0, 1);
                return 1;
            case 4:
            case 5: {
                int e = any(0, 7);
                int j = any(0, 9);
                int n = any(0, 9);
                same("copy", x.copy(d, i, e, j, n), m.copy(d, i, e, j, n));
                return 1;
            }
            case 6:
                same("gives", x.gives(d), m.gives(d));
                return 1;
            case 7:
            case 8:
                same("toss", x.toss(d), m.toss(d));
                return 1;
            default:
                return dice.nextInt(4) == 0 ? tell() : hearAny(d);
        }
    }

    private int hearAny(int d) {
        same("hear", x.hear(d), m.hear(d));
        return 1;
    }
}
