import java.math.BigInteger;
import java.util.ArrayDeque;
import java.util.ArrayList;
import java.util.Arrays;
import java.util.Deque;
import java.util.List;

/**
 * The document written down in the most literal way, with other means than the class: every place is
 * tried, every chain, every law, every set of days. RandomRunsTest compares the class with it.
 */
final class Model {
    private static final long OF_LONGS = Check.OF_LONGS;
    private static final int OF_SIGNED = Check.OF_SIGNED;

    /** A LIGHT, and under it the other KINDS. */
    private static class Lamp implements Cloneable {
        int number;
        int kind;
        int strength;
        int yellow;
        int setting;
        int hours;

        int raw(int damp) {
            return strength;
        }

        int wanders(int damp) {
            return 3;
        }

        int gives(int damp) {
            int raw = raw(damp);
            return raw < 1 ? 1 : raw > 99999 ? 99999 : raw;
        }

        @Override
        public Lamp clone() {
            try {
                return (Lamp) super.clone();
            } catch (CloneNotSupportedException e) {
                throw new IllegalStateException(e);
            }
        }
    }

    private static final class Candle extends Lamp {
        @Override
        int raw(int damp) {
            return super.raw(damp) * setting / 120;
        }

        @Override
        int wanders(int damp) {
            return super.wanders(damp) + damp;
        }
    }

    private static final class Vinegar extends Lamp {
        @Override
        int raw(int damp) {
            return super.raw(damp) + 5 * (setting - 40);
        }

        @Override
        int wanders(int damp) {
            return super.wanders(damp) + (setting < 40 ? 40 - setting : setting - 40);
        }
    }

    private static final class Gas extends Lamp {
        @Override
        int raw(int damp) {
            return super.raw(damp) * (100 + setting) / 100 - damp;
        }

        @Override
        int wanders(int damp) {
            return 2 * super.wanders(damp);
        }
    }

    private static class Glowing extends Lamp {
        @Override
        int raw(int damp) {
            return super.raw(damp) * setting / 100 - hours / 10;
        }

        @Override
        int wanders(int damp) {
            return super.wanders(damp) - 2;
        }
    }

    private static final class Coloured extends Lamp {
        @Override
        int raw(int damp) {
            return super.raw(damp) - damp;
        }

        @Override
        int wanders(int damp) {
            return super.wanders(damp) + 4;
        }
    }

    private static final class Metal extends Lamp {
        @Override
        int wanders(int damp) {
            return 0;
        }
    }

    private static final class Kept extends Glowing {
        @Override
        int raw(int damp) {
            return super.raw(damp) - hours / 20;
        }

        @Override
        int wanders(int damp) {
            return super.wanders(damp) + hours / 100;
        }
    }

    private static final class World {
        List<Lamp> lamps = new ArrayList<>();
        int damp;
        int[][] eyes = new int[8][];
        /** a, b, EYE, x, NIGHT, OUT. */
        List<int[]> matches = new ArrayList<>();
        /** HOUSE, LIGHT, PRICE, paid. */
        List<long[]> bills = new ArrayList<>();
        String rule = "g";
        int standard = -4;

        World copy() {
            World other = new World();
            for (Lamp lamp : lamps) {
                other.lamps.add(lamp.clone());
            }
            other.damp = damp;
            for (int k = 0; k < 8; k++) {
                other.eyes[k] = eyes[k].clone();
            }
            for (int[] match : matches) {
                other.matches.add(match.clone());
            }
            for (long[] bill : bills) {
                other.bills.add(bill.clone());
            }
            other.rule = rule;
            other.standard = standard;
            return other;
        }
    }

    private World now = new World();
    private World image = null;
    /** Each null, a Lamp, or a Sorted. */
    private final Object[] shelves = new Object[8];

    private static final class Sorted {
        final int sort;
        final long[] elements;

        Sorted(int sort, int n) {
            this.sort = sort;
            this.elements = new long[n];
        }
    }

    Model() {
        for (int k = 0; k < 8; k++) {
            now.eyes[k] = new int[] {100, 100, 0};
        }
    }

    private boolean isLamp(int k) {
        return k >= 0 && k < now.lamps.size();
    }

    private boolean arePair(int a, int b) {
        return isLamp(a) && isLamp(b) && a != b;
    }

    private static boolean in(long n, long least, long most) {
        return least <= n && n <= most;
    }

    int light(int kind, int strength, int yellow, int setting) {
        if (!in(kind, 0, 7) || !in(strength, 1, 9999) || !in(yellow, 0, 100) || !in(setting, 0, 200)) {
            return -1;
        }
        if (now.lamps.size() == 12) {
            return -2;
        }
        Lamp[] kinds = {new Lamp(), new Candle(), new Vinegar(), new Gas(), new Glowing(), new Coloured(), new Metal(), new Kept()};
        Lamp lamp = kinds[kind];
        lamp.number = now.lamps.size();
        lamp.kind = kind;
        lamp.strength = strength;
        lamp.yellow = yellow;
        lamp.setting = setting;
        now.lamps.add(lamp);
        return lamp.number;
    }

    int setting(int light, int n) {
        if (!isLamp(light) || !in(n, 0, 200)) {
            return -1;
        }
        int was = now.lamps.get(light).setting;
        now.lamps.get(light).setting = n;
        return was;
    }

    int burn(int light, int n) {
        if (!isLamp(light) || !in(n, 1, 999)) {
            return -1;
        }
        Lamp lamp = now.lamps.get(light);
        if (lamp.hours + n > 99999) {
            return -2;
        }
        return lamp.hours += n;
    }

    int damp(int n) {
        if (!in(n, 0, 50)) {
            return -1;
        }
        int was = now.damp;
        now.damp = n;
        return was;
    }

    int of(int light, int what) {
        if (!isLamp(light) || !in(what, 0, 6)) {
            return -1;
        }
        Lamp l = now.lamps.get(light);
        return new int[] {l.kind, l.strength, l.yellow, l.setting, l.hours, l.gives(now.damp), l.wanders(now.damp)}[what];
    }

    int eye(int eye, int what, int n) {
        if (!in(eye, 0, 7) || !in(what, 0, 2) || !in(n, what == 2 ? 0 : 1, what == 2 ? 20 : 200)) {
            return -1;
        }
        int was = now.eyes[eye][what];
        now.eyes[eye][what] = n;
        return was;
    }

    private long seenBy(int[] eye, Lamp lamp, int dim) {
        long yellow = Math.max(1, eye[0] - dim * eye[2]);
        long blue = eye[1] + dim * eye[2];
        return lamp.gives(now.damp) * (lamp.yellow * yellow + (100 - lamp.yellow) * blue);
    }

    private int place(int[] eye, int a, int b, int dim) {
        long sa = seenBy(eye, now.lamps.get(a), dim);
        long sb = seenBy(eye, now.lamps.get(b), dim);
        int best = 0;
        long least = Long.MAX_VALUE;
        for (int x = 1; x <= 99; x++) {
            long apart = Math.abs(sa * (100 - x) * (100 - x) - sb * x * x);
            if (apart < least) {
                least = apart;
                best = x;
            }
        }
        return best;
    }

    long seen(int light, int eye, int dim) {
        if (!isLamp(light) || !in(eye, 0, 7) || !in(dim, 0, 9)) {
            return OF_LONGS - 1;
        }
        return seenBy(now.eyes[eye], now.lamps.get(light), dim);
    }

    int alike(int a, int b, int eye, int dim) {
        if (!arePair(a, b) || !in(eye, 0, 7) || !in(dim, 0, 9)) {
            return -1;
        }
        return place(now.eyes[eye], a, b, dim);
    }

    int match(int a, int b, int eye, int night) {
        if (!arePair(a, b) || !in(eye, 0, 7) || !in(night, 0, 999)) {
            return -1;
        }
        if (now.matches.size() == 30) {
            return -2;
        }
        now.matches.add(new int[] {a, b, eye, place(now.eyes[eye], a, b, 0), night, 0});
        return now.matches.size() - 1;
    }

    int hear(int d) {
        if (!in(d, 0, 7)) {
            return -1;
        }
        if (shelves[d] == null) {
            return -11;
        }
        if (!(shelves[d] instanceof Sorted)) {
            return -12;
        }
        Sorted row = (Sorted) shelves[d];
        long least = new long[] {Byte.MIN_VALUE, Short.MIN_VALUE, Integer.MIN_VALUE}[row.sort];
        int came = 0;
        for (int group = 0; group < row.elements.length / 5; group++) {
            long[] five = Arrays.copyOfRange(row.elements, group * 5, group * 5 + 5);
            boolean tired = false;
            for (long one : five) {
                tired |= one == least;
            }
            if (tired) {
                continue;
            }
            boolean good = arePair((int) five[0], (int) five[1]) && in(five[2], 0, 7) && in(five[3], 1, 99)
                    && in(five[4], 0, 999) && now.matches.size() < 30;
            if (!good) {
                return came;
            }
            now.matches.add(new int[] {(int) five[0], (int) five[1], (int) five[2], (int) five[3], (int) five[4], 0});
            came++;
        }
        return came;
    }

    int told(int match, int what) {
        return in(match, 0, now.matches.size() - 1) && in(what, 0, 5) ? now.matches.get(match)[what] : -1;
    }

    int out(int match, boolean is) {
        if (!in(match, 0, now.matches.size() - 1)) {
            return -1;
        }
        int was = now.matches.get(match)[5];
        now.matches.get(match)[5] = is ? 1 : 0;
        return (was == 1) == is ? 0 : 1;
    }

    /** Tries all sequences of MATCHES of a length, in their order. */
    private boolean join(int a, int b, int length, List<Integer> path) {
        if (length == 0) {
            return a == b;
        }
        for (int k = 0; k < now.matches.size(); k++) {
            int[] m = now.matches.get(k);
            if (m[5] == 1 || m[0] != a && m[1] != a) {
                continue;
            }
            path.add(k);
            if (join(m[0] == a ? m[1] : m[0], b, length - 1, path)) {
                return true;
            }
            path.remove(path.size() - 1);
        }
        return false;
    }

    private List<Integer> path(int a, int b) {
        for (int length = 0; length <= 4; length++) {
            List<Integer> path = new ArrayList<>();
            if (join(a, b, length, path)) {
                return path;
            }
        }
        return null;
    }

    int chain(int a, int b, int i) {
        if (!isLamp(a) || !isLamp(b) || i < -1) {
            return -1;
        }
        List<Integer> path = path(a, b);
        if (path == null) {
            return -4;
        }
        return i == -1 ? path.size() : i < path.size() ? path.get(i) : -4;
    }

    private static BigInteger square(int n) {
        return BigInteger.valueOf((long) n * n);
    }

    long span(int a, int b, int what, int part) {
        if (!isLamp(a) || !isLamp(b) || !in(what, 0, 2) || !in(part, 0, 1)) {
            return OF_LONGS - 1;
        }
        List<Integer> path = path(a, b);
        if (path == null) {
            return OF_LONGS - 4;
        }
        BigInteger above = BigInteger.ONE;
        BigInteger below = BigInteger.ONE;
        int at = a;
        for (int k : path) {
            int[] m = now.matches.get(k);
            int x = m[3];
            BigInteger[][] says = {
                {square(x), square(100 - x)}, {square(x - 1), square(101 - x)}, {square(x + 1), square(99 - x)},
            };
            if (m[0] == at) {
                above = above.multiply(says[what][0]);
                below = below.multiply(says[what][1]);
                at = m[1];
            } else {
                int turned = what == 0 ? 0 : 3 - what;
                above = above.multiply(says[turned][1]);
                below = below.multiply(says[turned][0]);
                at = m[0];
            }
        }
        BigInteger common = above.gcd(below);
        return (part == 0 ? above : below).divide(common).longValueExact();
    }

    private List<int[]> let(int eye, int slip) {
        List<int[]> let = new ArrayList<>();
        for (int yellow = 10; yellow <= 200; yellow += 10) {
            for (int blue = 10; blue <= 200; blue += 10) {
                int[] law = {yellow, blue, now.eyes[eye][2]};
                boolean good = true;
                for (int[] m : now.matches) {
                    if (good && m[5] == 0 && m[2] == eye) {
                        good = Math.abs(place(law, m[0], m[1], 0) - m[3]) <= slip;
                    }
                }
                if (good) {
                    let.add(law);
                }
            }
        }
        return let;
    }

    int laws(int eye, int slip, int i) {
        if (!in(eye, 0, 7) || !in(slip, 0, 50) || i < -1) {
            return -1;
        }
        List<int[]> let = let(eye, slip);
        return i == -1 ? let.size() : i < let.size() ? 1000 * let.get(i)[0] + let.get(i)[1] : -4;
    }

    private int partsBy(List<int[]> let, int a, int b) {
        int least = 100;
        int most = 0;
        for (int[] law : let) {
            int place = place(law, a, b, 0);
            least = Math.min(least, place);
            most = Math.max(most, place);
        }
        return most - least;
    }

    int parts(int eye, int slip, int a, int b) {
        if (!in(eye, 0, 7) || !in(slip, 0, 50) || !arePair(a, b)) {
            return -1;
        }
        List<int[]> let = let(eye, slip);
        return let.isEmpty() ? -4 : partsBy(let, a, b);
    }

    int show(int eye, int slip) {
        if (!in(eye, 0, 7) || !in(slip, 0, 50)) {
            return -1;
        }
        List<int[]> let = let(eye, slip);
        if (let.isEmpty() || now.lamps.size() < 2) {
            return -4;
        }
        int best = -1;
        int answer = -4;
        for (int a = 0; a < now.lamps.size(); a++) {
            for (int b = a + 1; b < now.lamps.size(); b++) {
                int parts = partsBy(let, a, b);
                if (parts > best) {
                    best = parts;
                    answer = 100 * a + b;
                }
            }
        }
        return answer;
    }

    int disagree(int first, int second, int a, int b, int dim) {
        if (!in(first, 0, 7) || !in(second, 0, 7) || !arePair(a, b) || !in(dim, 0, 9)) {
            return OF_SIGNED - 1;
        }
        return place(now.eyes[first], a, b, dim) - place(now.eyes[second], a, b, dim);
    }

    private int[] meanEye(int set) {
        int[] sum = new int[3];
        int many = 0;
        for (int k = 0; k < 8; k++) {
            if ((set & 1 << k) != 0) {
                many++;
                for (int what = 0; what < 3; what++) {
                    sum[what] += now.eyes[k][what];
                }
            }
        }
        return new int[] {sum[0] / many, sum[1] / many, sum[2] / many};
    }

    int mean(int set, int what) {
        return in(set, 1, 255) && in(what, 0, 2) ? meanEye(set)[what] : -1;
    }

    int stands(int set, int a, int b) {
        if (!in(set, 1, 255) || !arePair(a, b)) {
            return -1;
        }
        int bits = 0;
        for (int k = 0; k < 8; k++) {
            if ((set & 1 << k) != 0 && Math.abs(place(now.eyes[k], a, b, 0) - place(meanEye(set), a, b, 0)) <= 1) {
                bits += 1 << k;
            }
        }
        return bits;
    }

    /** The FAULT by a list of what may come next and a pile of open brackets, not by recursion. */
    static int faultOf(String text) {
        Deque<Character> open = new ArrayDeque<>();
        boolean wantsAtom = true;
        String number = "";
        for (int i = 0; i < text.length(); i++) {
            char c = text.charAt(i);
            boolean digit = c >= '0' && c <= '9';
            if (digit && !number.isEmpty()) {
                if (number.equals("0") || number.length() == 4) {
                    return i;
                }
                number += c;
            } else if (wantsAtom) {
                if (digit) {
                    number = "" + c;
                    wantsAtom = false;
                } else if ("gsthwdy".indexOf(c) >= 0) {
                    wantsAtom = false;
                } else if ((c == '(' || c == '[') && open.size() < 6) {
                    open.push(c);
                } else {
                    return i;
                }
            } else {
                number = "";
                if ("+-*/".indexOf(c) >= 0) {
                    wantsAtom = true;
                } else if (c == ',' && !open.isEmpty() && open.peek() == '[') {
                    open.pop();
                    open.push(',');
                    wantsAtom = true;
                } else if (c == ')' && !open.isEmpty() && open.peek() == '(' || c == ']' && !open.isEmpty() && open.peek() == ',') {
                    open.pop();
                } else {
                    return i;
                }
            }
        }
        return wantsAtom || !open.isEmpty() ? text.length() : -4;
    }

    /** Works out a good text by splitting it at the last operator outside of brackets. */
    private int work(String text, Lamp lamp) {
        for (String operators : new String[] {"+-", "*/"}) {
            int depth = 0;
            for (int i = text.length() - 1; i >= 0; i--) {
                char c = text.charAt(i);
                depth += c == ')' || c == ']' ? 1 : c == '(' || c == '[' ? -1 : 0;
                if (depth == 0 && operators.indexOf(c) >= 0) {
                    int left = work(text.substring(0, i), lamp);
                    int right = work(text.substring(i + 1), lamp);
                    return c == '+' ? left + right : c == '-' ? left - right : c == '*' ? left * right
                            : right == 0 ? 0 : left / right;
                }
            }
        }
        char c = text.charAt(0);
        if (c == '(') {
            return work(text.substring(1, text.length() - 1), lamp);
        }
        if (c == '[') {
            int depth = 0;
            for (int i = 0; i < text.length(); i++) {
                char at = text.charAt(i);
                depth += at == ')' || at == ']' ? -1 : at == '(' || at == '[' ? 1 : 0;
                if (depth == 1 && at == ',') {
                    return Math.min(work(text.substring(1, i), lamp), work(text.substring(i + 1, text.length() - 1), lamp));
                }
            }
        }
        switch (c) {
            case 'g': return lamp.gives(now.damp);
            case 's': return lamp.strength;
            case 't': return lamp.setting;
            case 'h': return lamp.hours;
            case 'w': return lamp.wanders(now.damp);
            case 'd': return now.damp;
            case 'y': return lamp.yellow;
            default: return Integer.parseInt(text);
        }
    }

    private int textRefusal(int d) {
        if (!in(d, 0, 7)) {
            return -1;
        }
        if (shelves[d] == null) {
            return -11;
        }
        return shelves[d] instanceof Sorted && ((Sorted) shelves[d]).sort == 0 ? 0 : -12;
    }

    private String textOn(int d) {
        StringBuilder text = new StringBuilder();
        for (long one : ((Sorted) shelves[d]).elements) {
            text.append((char) (one & 255));
        }
        return text.toString();
    }

    int fault(int d) {
        return textRefusal(d) != 0 ? textRefusal(d) : faultOf(textOn(d));
    }

    int rule(int d) {
        if (textRefusal(d) != 0) {
            return textRefusal(d);
        }
        int fault = faultOf(textOn(d));
        if (fault >= 0) {
            return -100 - fault;
        }
        now.rule = textOn(d);
        return 1;
    }

    int right(int light) {
        return isLamp(light) ? work(now.rule, now.lamps.get(light)) : OF_SIGNED - 1;
    }

    int standard(int light) {
        if (!isLamp(light)) {
            return -1;
        }
        int was = now.standard;
        now.standard = light;
        return was;
    }

    long worth(int light) {
        if (!isLamp(light)) {
            return OF_LONGS - 1;
        }
        if (now.standard < 0) {
            return OF_LONGS - 3;
        }
        long unit = right(now.standard);
        return unit == 0 ? 0 : 100L * right(light) / unit;
    }

    int steady(int set) {
        List<Integer> chosen = new ArrayList<>();
        for (int k = 0; k < 32; k++) {
            if ((set & 1 << k) != 0) {
                if (!isLamp(k)) {
                    return -1;
                }
                chosen.add(k);
            }
        }
        for (int k : chosen) {
            boolean least = true;
            for (int other : chosen) {
                BigInteger mine = BigInteger.valueOf((long) of(k, 6) * of(other, 5));
                least &= mine.compareTo(BigInteger.valueOf((long) of(other, 6) * of(k, 5))) <= 0;
            }
            if (least) {
                return k;
            }
        }
        return -1;
    }

    int aged(int n) {
        if (!in(n, 1, 100)) {
            return -1;
        }
        int bits = 0;
        for (Lamp lamp : now.lamps) {
            Lamp fresh = lamp.clone();
            fresh.hours = 0;
            long was = fresh.gives(now.damp);
            if (lamp instanceof Glowing && 100 * (was - lamp.gives(now.damp)) >= n * was) {
                bits |= 1 << lamp.number;
            }
        }
        return bits;
    }

    int bill(int house, int light, int price) {
        if (!in(house, 0, 3) || !isLamp(light) || !in(price, 1, 999)) {
            return -1;
        }
        if (now.bills.size() == 20) {
            return -2;
        }
        if (now.standard < 0) {
            return -3;
        }
        now.bills.add(new long[] {house, light, price, price * worth(light) / 100});
        return now.bills.size() - 1;
    }

    long paid(int bill) {
        return in(bill, 0, now.bills.size() - 1) ? now.bills.get(bill)[3] : OF_LONGS - 1;
    }

    long owed(int house) {
        if (!in(house, 0, 3)) {
            return OF_LONGS - 1;
        }
        if (now.standard < 0) {
            return OF_LONGS - 3;
        }
        long would = 0;
        long was = 0;
        for (long[] bill : now.bills) {
            if (bill[0] == house) {
                would += bill[2] * worth((int) bill[1]) / 100;
                was += bill[3];
            }
        }
        return would - was;
    }

    private static boolean goodTerms(int costs, int fine) {
        return in(costs, 0, 999999) && costs % 1000 < costs / 1000 && in(fine, 0, 9999);
    }

    private static int gainOn(int well, int costs, int fine, int days) {
        int cost = 0;
        for (int day = 0; day < 7; day++) {
            boolean good = (well & 1 << day) != 0;
            cost += good ? costs / 1000 : costs % 1000;
            cost += !good && (days & 1 << day) != 0 ? fine : 0;
        }
        return 7 * (costs / 1000) - cost;
    }

    private static int gainByLot(int well, int costs, int fine, int n) {
        int sum = 0;
        for (int days = 0; days < 128; days++) {
            sum += Integer.bitCount(days) == n ? gainOn(well, costs, fine, days) : 0;
        }
        return sum;
    }

    int gain(int well, int costs, int fine, int days, boolean lot) {
        if (!in(well, 0, 127) || !goodTerms(costs, fine) || !in(days, 0, lot ? 7 : 127)) {
            return OF_SIGNED - 1;
        }
        return lot ? gainByLot(well, costs, fine, days) : gainOn(well, costs, fine, days);
    }

    int best(int costs, int fine, int days, int what) {
        if (!goodTerms(costs, fine) || !in(what, 0, 1) || !in(days, 0, what == 0 ? 127 : 0)) {
            return -1;
        }
        if (what == 0) {
            int best = 0;
            for (int well = 1; well < 128; well++) {
                best = gainOn(well, costs, fine, days) > gainOn(best, costs, fine, days) ? well : best;
            }
            return best;
        }
        for (int n = 0; n <= 7; n++) {
            boolean enough = true;
            for (int well = 0; well < 128; well++) {
                enough &= gainByLot(well, costs, fine, n) <= gainByLot(127, costs, fine, n);
            }
            if (enough) {
                return n;
            }
        }
        return -4;
    }

    /** How many pairs are joined, with one more MATCH of a and b. */
    private int pairsWith(int a, int b) {
        int n = now.lamps.size();
        boolean[][] joined = new boolean[n][n];
        for (int[] m : now.matches) {
            joined[m[0]][m[1]] |= m[5] == 0;
            joined[m[1]][m[0]] |= m[5] == 0;
        }
        if (a != b) {
            joined[a][b] = true;
            joined[b][a] = true;
        }
        for (int k = 0; k < n; k++) {
            for (int i = 0; i < n; i++) {
                for (int j = 0; j < n; j++) {
                    joined[i][j] |= joined[i][k] && joined[k][j];
                }
            }
        }
        int pairs = 0;
        for (int i = 0; i < n; i++) {
            for (int j = i + 1; j < n; j++) {
                pairs += joined[i][j] ? 1 : 0;
            }
        }
        return pairs;
    }

    int narrows() {
        int n = now.lamps.size();
        int most = pairsWith(0, 0);
        if (most == n * (n - 1) / 2) {
            return -4;
        }
        int answer = -4;
        for (int a = 0; a < n; a++) {
            for (int b = a + 1; b < n; b++) {
                int pairs = pairsWith(a, b);
                if (pairs > most) {
                    most = pairs;
                    answer = 100 * a + b;
                }
            }
        }
        return answer;
    }

    int image() {
        image = now.copy();
        return now.lamps.size();
    }

    int restore() {
        if (image == null) {
            return -3;
        }
        now = image.copy();
        return now.lamps.size();
    }

    int count(int what) {
        int outs = 0;
        for (int[] m : now.matches) {
            outs += m[5];
        }
        int hours = 0;
        for (Lamp lamp : now.lamps) {
            hours += lamp.hours;
        }
        int[] counts = {now.lamps.size(), now.matches.size(), outs, now.bills.size(), hours, pairsWith(0, 0)};
        return in(what, 0, 5) ? counts[what] : -1;
    }

    int keep(int d, int what, int k) {
        if (!in(d, 0, 7) || !in(what, 0, 1) || what == 1 && !isLamp(k)) {
            return -1;
        }
        shelves[d] = what == 0 ? null : now.lamps.get(k).clone();
        return 0;
    }

    int row(int d, int sort, int n) {
        if (!in(d, 0, 7) || !in(sort, 0, 2) || n > 100) {
            return -1;
        }
        if (n < 0) {
            return -14;
        }
        shelves[d] = new Sorted(sort, n);
        return 0;
    }

    int put(int d, int i, int v) {
        if (!in(d, 0, 7)) {
            return -1;
        }
        if (shelves[d] == null) {
            return -11;
        }
        if (!(shelves[d] instanceof Sorted)) {
            return -12;
        }
        Sorted row = (Sorted) shelves[d];
        if (!in(i, 0, row.elements.length - 1)) {
            return -13;
        }
        row.elements[i] = row.sort == 0 ? (byte) v : row.sort == 1 ? (short) v : v;
        return 0;
    }

    String element(int d, int i) {
        if (!in(d, 0, 7)) {
            return "IllegalArgumentException";
        }
        if (!(shelves[d] instanceof Sorted) || !in(i, 0, ((Sorted) shelves[d]).elements.length - 1)) {
            return "IllegalStateException";
        }
        return Long.toString(((Sorted) shelves[d]).elements[i]);
    }

    int copy(int d, int i, int e, int j, int n) {
        if (!in(d, 0, 7) || !in(e, 0, 7)) {
            return -1;
        }
        if (shelves[d] == null || shelves[e] == null) {
            return -11;
        }
        if (!(shelves[d] instanceof Sorted) || !(shelves[e] instanceof Sorted)) {
            return -12;
        }
        Sorted from = (Sorted) shelves[d];
        Sorted to = (Sorted) shelves[e];
        if (from.sort != to.sort) {
            return -12;
        }
        if (n < 0 || i < 0 || j < 0 || (long) i + n > from.elements.length || (long) j + n > to.elements.length) {
            return -13;
        }
        long[] held = from.elements.clone();
        for (int k = 0; k < n; k++) {
            to.elements[j + k] = held[i + k];
        }
        return n;
    }

    int gives(int d) {
        if (!in(d, 0, 7)) {
            return -1;
        }
        return shelves[d] == null ? -11 : shelves[d] instanceof Lamp ? ((Lamp) shelves[d]).gives(now.damp) : -12;
    }

    int toss(int d) {
        if (!in(d, 0, 7)) {
            return -1;
        }
        if (shelves[d] == null) {
            return -11;
        }
        if (!(shelves[d] instanceof Lamp)) {
            return -12;
        }
        Lamp lamp = (Lamp) shelves[d];
        if (lamp instanceof Metal || lamp.setting == 0) {
            return -15;
        }
        return lamp instanceof Gas ? 200 + lamp.setting : lamp instanceof Kept ? 100 + lamp.number : lamp.number;
    }
}
