/**
 * A candle for all lamps: lights, the eyes that see them, the bar on which they are matched,
 * and what follows from the matches. The words in capitals are those of the document.
 *
 * All that a call needs is made in the constructor and used again, since every call of a run
 * lives in one room.
 */
public final class CandleBar {
    private static final int MOST_LIGHTS = 12;
    private static final int MOST_MATCHES = 30;
    private static final int MOST_BILLS = 20;
    private static final int MOST_HOURS = 99999;
    private static final int MOST_SETTING = 200;
    private static final int MOST_ELEMENTS = 100;
    private static final int EYES = 8;
    private static final int ALL_EYES = 255;
    private static final int SHELVES = 8;
    private static final int HOUSES = 4;
    private static final int MOST_DIM = 9;
    private static final int MOST_SLIP = 50;
    private static final int LAST_PLACE = 99;
    private static final int LONGEST_CHAIN = 4;
    private static final int TOLD_EACH = 5;

    private static final int LIGHT = 0;
    private static final int CANDLE = 1;
    private static final int VINEGAR = 2;
    private static final int GAS = 3;
    private static final int GLOWING = 4;
    private static final int COLOURED = 5;
    private static final int METAL = 6;
    private static final int KEPT = 7;

    private static final int BYTES = 0;
    private static final int SHORTS = 1;
    private static final int INTS = 2;

    private static final int HOLDS_NOTHING = 0;
    private static final int HOLDS_LIGHT = 1;
    private static final int HOLDS_ROW = 2;

    private static final int WRONG = -1;
    private static final int NO_ROOM = -2;
    private static final int CANNOT = -3;
    private static final int NONE = -4;
    private static final int OF_FAULTS = -100;
    private static final int NOTHING_HELD = -11;
    private static final int OTHER_KIND = -12;
    private static final int NO_PLACE = -13;
    private static final int SIZE_BELOW_0 = -14;
    private static final int NO_FAILURE = -15;
    private static final int OF_SIGNED = -1000000000;
    private static final long OF_LONGS = -4000000000000000000L;

    private static final int DAYS = 7;
    private static final int ALL_DAYS = 127;
    /** In how many ways n of the 7 days are chosen. */
    private static final int[] WAYS = {1, 7, 21, 35, 35, 21, 7, 1};
    /** In how many of those ways a given day is among them. */
    private static final int[] WAYS_WITH_A_DAY = {0, 1, 6, 15, 20, 15, 6, 1};

    private final State now = new State();
    private final State image = new State();
    private boolean imageTaken;
    private final Shelf[] shelves = new Shelf[SHELVES];
    private final RuleReader reader = new RuleReader();
    private final ChainFinder finder = new ChainFinder();
    private final Groups groups = new Groups();
    private final LawBook book = new LawBook();
    private final Eye meanEye = new Eye();

    public CandleBar() {
        for (int d = 0; d < SHELVES; d++) {
            shelves[d] = new Shelf();
        }
    }

    // ---- lights, air

    public int light(int kind, int strength, int yellow, int setting) {
        if (!within(kind, LIGHT, KEPT) || !within(strength, 1, 9999)
                || !within(yellow, 0, 100) || !within(setting, 0, MOST_SETTING)) {
            return WRONG;
        }
        if (now.lightCount >= MOST_LIGHTS) {
            return NO_ROOM;
        }
        int number = now.lightCount;
        Light made = now.lights[number];
        made.number = number;
        made.kind = kind;
        made.strength = strength;
        made.yellow = yellow;
        made.setting = setting;
        made.hours = 0;
        now.lightCount++;
        return number;
    }

    public int setting(int light, int n) {
        Light lit = now.lightAt(light);
        if (lit == null || !within(n, 0, MOST_SETTING)) {
            return WRONG;
        }
        int was = lit.setting;
        lit.setting = n;
        return was;
    }

    public int burn(int light, int n) {
        Light lit = now.lightAt(light);
        if (lit == null || !within(n, 1, 999)) {
            return WRONG;
        }
        if (lit.hours + n > MOST_HOURS) {
            return NO_ROOM;
        }
        lit.hours += n;
        return lit.hours;
    }

    public int damp(int n) {
        if (!within(n, 0, 50)) {
            return WRONG;
        }
        int was = now.damp;
        now.damp = n;
        return was;
    }

    public int of(int light, int what) {
        Light lit = now.lightAt(light);
        if (lit == null) {
            return WRONG;
        }
        switch (what) {
            case 0: return lit.kind;
            case 1: return lit.strength;
            case 2: return lit.yellow;
            case 3: return lit.setting;
            case 4: return lit.hours;
            case 5: return lit.shineIn(now.damp);
            case 6: return lit.wanderIn(now.damp);
            default: return WRONG;
        }
    }

    // ---- eyes, the bar

    public int eye(int eye, int what, int n) {
        Eye changed = now.eyeAt(eye);
        if (changed == null || !within(what, 0, 2)) {
            return WRONG;
        }
        boolean fits = what == 2 ? within(n, 0, 20) : within(n, 1, 200);
        if (!fits) {
            return WRONG;
        }
        int was = changed.weightOf(what);
        changed.change(what, n);
        return was;
    }

    public long seen(int light, int eye, int dim) {
        Light lit = now.lightAt(light);
        Eye seer = now.eyeAt(eye);
        if (lit == null || seer == null || !within(dim, 0, MOST_DIM)) {
            return OF_LONGS + WRONG;
        }
        return seer.see(lit, now.damp, dim);
    }

    public int alike(int a, int b, int eye, int dim) {
        Eye seer = now.eyeAt(eye);
        if (!now.isPair(a, b) || seer == null || !within(dim, 0, MOST_DIM)) {
            return WRONG;
        }
        return now.placeFor(a, b, seer, dim);
    }

    public int match(int a, int b, int eye, int night) {
        Eye seer = now.eyeAt(eye);
        if (!now.isPair(a, b) || seer == null) {
            return WRONG;
        }
        return now.addMatch(a, b, eye, now.placeFor(a, b, seer, 0), night);
    }

    public int hear(int d) {
        int refusal = shelfRefusal(d, HOLDS_ROW);
        if (refusal != 0) {
            return refusal;
        }
        Row told = shelves[d].row;
        int came = 0;
        for (int i = 0; i + TOLD_EACH <= told.size; i += TOLD_EACH) {
            if (told.isTiredAt(i)) {
                continue;
            }
            int[] from = told.elements;
            if (now.addMatch(from[i], from[i + 1], from[i + 2], from[i + 3], from[i + 4]) < 0) {
                break;
            }
            came++;
        }
        return came;
    }

    public int told(int match, int what) {
        Match asked = now.matchAt(match);
        if (asked == null) {
            return WRONG;
        }
        switch (what) {
            case 0: return asked.a;
            case 1: return asked.b;
            case 2: return asked.eye;
            case 3: return asked.x;
            case 4: return asked.night;
            case 5: return asked.isOut ? 1 : 0;
            default: return WRONG;
        }
    }

    public int out(int match, boolean is) {
        Match changed = now.matchAt(match);
        if (changed == null) {
            return WRONG;
        }
        boolean was = changed.isOut;
        changed.isOut = is;
        return was == is ? 0 : 1;
    }

    public int chain(int a, int b, int i) {
        if (!now.isLight(a) || !now.isLight(b) || i < -1) {
            return WRONG;
        }
        if (!finder.find(now, a, b)) {
            return NONE;
        }
        if (i == -1) {
            return finder.length;
        }
        return i < finder.length ? finder.path[i] : NONE;
    }

    public long span(int a, int b, int what, int part) {
        if (!now.isLight(a) || !now.isLight(b) || !within(what, 0, 2) || !within(part, 0, 1)) {
            return OF_LONGS + WRONG;
        }
        if (!finder.find(now, a, b)) {
            return OF_LONGS + NONE;
        }
        finder.multiply(now, a, what);
        return part == 0 ? finder.above : finder.below;
    }

    /**
     * The place on the bar at which two LIGHTS are ALIKE. By how much a is ahead of b falls from
     * place to place, so the first place that is no worse than the next one is the answer.
     */
    private static int placeOf(long seenA, long seenB) {
        int before = 0;
        for (int step = 64; step > 0; step /= 2) {
            if (!isPlaceUpTo(before + step, seenA, seenB)) {
                before += step;
            }
        }
        return before + 1;
    }

    /**
     * Whether the place is p or less: whether a and b are no further apart at p than at p and 1.
     * As a is always further ahead at p than at p and 1, p is no worse just if what a is ahead at
     * both together is 0 or below; so nothing need be taken without its sign.
     */
    private static boolean isPlaceUpTo(int p, long seenA, long seenB) {
        if (p < 1 || p >= LAST_PLACE) {
            return p >= LAST_PLACE;
        }
        int squaresOfA = (100 - p) * (100 - p) + (99 - p) * (99 - p);
        int squaresOfB = p * p + (p + 1) * (p + 1);
        return seenA * squaresOfA <= seenB * squaresOfB;
    }

    // ---- laws of eyes

    public int laws(int eye, int slip, int i) {
        if (!within(eye, 0, EYES - 1) || !within(slip, 0, MOST_SLIP) || i < -1) {
            return WRONG;
        }
        book.read(now, eye, slip);
        return i == -1 ? book.letCount : book.lawAt(i);
    }

    public int parts(int eye, int slip, int a, int b) {
        if (!within(eye, 0, EYES - 1) || !within(slip, 0, MOST_SLIP) || !now.isPair(a, b)) {
            return WRONG;
        }
        book.read(now, eye, slip);
        return book.letCount == 0 ? NONE : book.apart(now, a, b);
    }

    public int show(int eye, int slip) {
        if (!within(eye, 0, EYES - 1) || !within(slip, 0, MOST_SLIP)) {
            return WRONG;
        }
        book.read(now, eye, slip);
        if (book.letCount == 0) {
            return NONE;
        }
        int pair = NONE;
        int most = -1;
        for (int a = 0; a < now.lightCount; a++) {
            for (int b = a + 1; b < now.lightCount; b++) {
                int apart = book.apart(now, a, b);
                if (apart > most) {
                    most = apart;
                    pair = 100 * a + b;
                }
            }
        }
        return pair;
    }

    public int disagree(int first, int second, int a, int b, int dim) {
        Eye one = now.eyeAt(first);
        Eye other = now.eyeAt(second);
        if (one == null || other == null || !now.isPair(a, b) || !within(dim, 0, MOST_DIM)) {
            return OF_SIGNED + WRONG;
        }
        return now.placeFor(a, b, one, dim) - now.placeFor(a, b, other, dim);
    }

    public int mean(int set, int what) {
        if (!within(set, 1, ALL_EYES) || !within(what, 0, 2)) {
            return WRONG;
        }
        makeMeanEye(set);
        return meanEye.weightOf(what);
    }

    public int stands(int set, int a, int b) {
        if (!within(set, 1, ALL_EYES) || !now.isPair(a, b)) {
            return WRONG;
        }
        makeMeanEye(set);
        int place = now.placeFor(a, b, meanEye, 0);
        int bits = 0;
        for (int k = 0; k < EYES; k++) {
            if (isIn(set, k) && Math.abs(now.placeFor(a, b, now.eyes[k], 0) - place) <= 1) {
                bits |= 1 << k;
            }
        }
        return bits;
    }

    private void makeMeanEye(int set) {
        int many = Integer.bitCount(set & ALL_EYES);
        for (int what = 0; what <= 2; what++) {
            int sum = 0;
            for (int k = 0; k < EYES; k++) {
                sum += isIn(set, k) ? now.eyes[k].weightOf(what) : 0;
            }
            meanEye.change(what, many == 0 ? 0 : sum / many);
        }
    }

    // ---- rules, standards, bills

    public int fault(int d) {
        int refusal = textRefusal(d);
        if (refusal != 0) {
            return refusal;
        }
        return reader.findFault(shelves[d].row.elements, shelves[d].row.size);
    }

    public int rule(int d) {
        int refusal = textRefusal(d);
        if (refusal != 0) {
            return refusal;
        }
        Row text = shelves[d].row;
        int place = reader.findFault(text.elements, text.size);
        if (place != NONE) {
            return OF_FAULTS - place;
        }
        now.putInForce(text.elements, text.size);
        return 1;
    }

    public int right(int light) {
        Light lit = now.lightAt(light);
        return lit == null ? OF_SIGNED + WRONG : reader.workOut(now, lit);
    }

    public int standard(int light) {
        if (!now.isLight(light)) {
            return WRONG;
        }
        int was = now.standard;
        now.standard = light;
        return was;
    }

    public long worth(int light) {
        Light lit = now.lightAt(light);
        if (lit == null) {
            return OF_LONGS + WRONG;
        }
        if (now.standard == NONE) {
            return OF_LONGS + CANNOT;
        }
        return worthOf(lit);
    }

    public int steady(int set) {
        if (set <= 0 || set >= 1 << now.lightCount) {
            return WRONG;
        }
        int least = WRONG;
        for (int k = 0; k < now.lightCount; k++) {
            if (isIn(set, k) && (least < 0 || isSteadier(now.lights[k], now.lights[least]))) {
                least = k;
            }
        }
        return least;
    }

    public int aged(int n) {
        if (!within(n, 1, 100)) {
            return WRONG;
        }
        int bits = 0;
        for (int k = 0; k < now.lightCount; k++) {
            if (now.lights[k].isAgedBy(n, now.damp)) {
                bits |= 1 << k;
            }
        }
        return bits;
    }

    public int bill(int house, int light, int price) {
        Light lit = now.lightAt(light);
        if (lit == null || !within(house, 0, HOUSES - 1) || !within(price, 1, 999)) {
            return WRONG;
        }
        if (now.billCount >= MOST_BILLS) {
            return NO_ROOM;
        }
        if (now.standard == NONE) {
            return CANNOT;
        }
        int number = now.billCount;
        Bill made = now.bills[number];
        made.house = house;
        made.light = light;
        made.price = price;
        made.paid = price * worthOf(lit) / 100;
        now.billCount++;
        return number;
    }

    public long paid(int bill) {
        return within(bill, 0, now.billCount - 1) ? now.bills[bill].paid : OF_LONGS + WRONG;
    }

    public long owed(int house) {
        if (!within(house, 0, HOUSES - 1)) {
            return OF_LONGS + WRONG;
        }
        if (now.standard == NONE) {
            return OF_LONGS + CANNOT;
        }
        long sum = 0;
        for (int k = 0; k < now.billCount; k++) {
            Bill old = now.bills[k];
            if (old.house == house) {
                sum += old.price * worthOf(now.lights[old.light]) / 100 - old.paid;
            }
        }
        return sum;
    }

    private long worthOf(Light lit) {
        Light standard = now.lightAt(now.standard);
        if (standard == null) {
            return 0;
        }
        long unit = reader.workOut(now, standard);
        return unit == 0 ? 0 : reader.workOut(now, lit) * 100L / unit;
    }

    /** Both are multiplied by what the other GIVES, so that nothing is cut. */
    private boolean isSteadier(Light one, Light other) {
        long ofOne = (long) one.wanderIn(now.damp) * other.shineIn(now.damp);
        long ofOther = (long) other.wanderIn(now.damp) * one.shineIn(now.damp);
        return ofOne < ofOther;
    }

    // ---- inspectors, what to match

    public int gain(int well, int costs, int fine, int days, boolean lot) {
        if (!within(well, 0, ALL_DAYS) || !areTerms(costs, fine)
                || !within(days, 0, lot ? DAYS : ALL_DAYS)) {
            return OF_SIGNED + WRONG;
        }
        int ill = ALL_DAYS & ~well;
        if (lot) {
            return Integer.bitCount(ill) * gainOfAnIllDay(savedBy(costs), fine, days);
        }
        return Integer.bitCount(ill) * savedBy(costs) - Integer.bitCount(ill & days) * fine;
    }

    public int best(int costs, int fine, int days, int what) {
        if (!areTerms(costs, fine) || !within(what, 0, 1)
                || !within(days, 0, what == 0 ? ALL_DAYS : 0)) {
            return WRONG;
        }
        int saved = savedBy(costs);
        if (what == 0) {
            // Each day stands for itself: well pays only where an inspector's FINE is above what
            // is saved, and where both are alike the least bits want it ill.
            return fine > saved ? days : 0;
        }
        for (int n = 0; n <= DAYS; n++) {
            // GAIN is so much for each ill day, so one ill day tells of every set.
            if (gainOfAnIllDay(saved, fine, n) <= 0) {
                return n;
            }
        }
        return NONE;
    }

    public int narrows() {
        groups.gather(now);
        int pair = NONE;
        int most = 0;
        for (int a = 0; a < now.lightCount; a++) {
            for (int b = a + 1; b < now.lightCount; b++) {
                // A pair that is joined already joins no other pairs.
                int more = groups.areJoined(a, b) ? 0 : groups.sizeWith(a) * groups.sizeWith(b);
                if (more > most) {
                    most = more;
                    pair = 100 * a + b;
                }
            }
        }
        return pair;
    }

    private static boolean areTerms(int costs, int fine) {
        return within(costs, 0, 999999) && savedBy(costs) > 0 && within(fine, 0, 9999);
    }

    /** What an ill day costs less than a good one. */
    private static int savedBy(int costs) {
        return costs / 1000 - costs % 1000;
    }

    /** GAIN of one ill day over all ways to choose n days by LOT. */
    private static int gainOfAnIllDay(int saved, int fine, int n) {
        if (!within(n, 0, DAYS)) {
            return 0;
        }
        return WAYS[n] * saved - WAYS_WITH_A_DAY[n] * fine;
    }

    // ---- the image, what is told

    public int image() {
        image.takeFrom(now);
        imageTaken = true;
        return now.lightCount;
    }

    public int restore() {
        if (!imageTaken) {
            return CANNOT;
        }
        now.takeFrom(image);
        return now.lightCount;
    }

    public int count(int what) {
        switch (what) {
            case 0: return now.lightCount;
            case 1: return now.matchCount;
            case 2: return now.countOut();
            case 3: return now.billCount;
            case 4: return now.allHours();
            case 5:
                groups.gather(now);
                return groups.countPairs();
            default: return WRONG;
        }
    }

    // ---- shelves

    public int keep(int d, int what, int k) {
        if (!within(d, 0, SHELVES - 1) || !within(what, 0, 1)) {
            return WRONG;
        }
        if (what == 0) {
            shelves[d].held = HOLDS_NOTHING;
            return 0;
        }
        Light lit = now.lightAt(k);
        if (lit == null) {
            return WRONG;
        }
        shelves[d].light.takeFrom(lit);
        shelves[d].held = HOLDS_LIGHT;
        return 0;
    }

    public int row(int d, int sort, int n) {
        if (!within(d, 0, SHELVES - 1) || !within(sort, BYTES, INTS) || n > MOST_ELEMENTS) {
            return WRONG;
        }
        if (n < 0) {
            return SIZE_BELOW_0;
        }
        shelves[d].row.begin(sort, n);
        shelves[d].held = HOLDS_ROW;
        return 0;
    }

    public int put(int d, int i, int v) {
        int refusal = shelfRefusal(d, HOLDS_ROW);
        if (refusal != 0) {
            return refusal;
        }
        Row changed = shelves[d].row;
        if (!within(i, 0, changed.size - 1)) {
            return NO_PLACE;
        }
        changed.elements[i] = changed.lowestBits(v);
        return 0;
    }

    public long element(int d, int i) throws IllegalArgumentException, IllegalStateException {
        if (!within(d, 0, SHELVES - 1)) {
            throw new IllegalArgumentException("no such shelf");
        }
        if (shelves[d].held != HOLDS_ROW) {
            throw new IllegalStateException("no row");
        }
        Row asked = shelves[d].row;
        if (!within(i, 0, asked.size - 1)) {
            throw new IllegalStateException("no such place");
        }
        return asked.elements[i];
    }

    public int copy(int d, int i, int e, int j, int n) {
        if (!within(d, 0, SHELVES - 1) || !within(e, 0, SHELVES - 1)) {
            return WRONG;
        }
        if (shelves[d].held == HOLDS_NOTHING || shelves[e].held == HOLDS_NOTHING) {
            return NOTHING_HELD;
        }
        if (shelves[d].held != HOLDS_ROW || shelves[e].held != HOLDS_ROW) {
            return OTHER_KIND;
        }
        Row from = shelves[d].row;
        Row to = shelves[e].row;
        if (from.sort != to.sort) {
            return OTHER_KIND;
        }
        if (n < 0 || !within(i, 0, from.size - n) || !within(j, 0, to.size - n)) {
            return NO_PLACE;
        }
        System.arraycopy(from.elements, i, to.elements, j, n);
        return n;
    }

    public int gives(int d) {
        int refusal = shelfRefusal(d, HOLDS_LIGHT);
        return refusal != 0 ? refusal : shelves[d].light.shineIn(now.damp);
    }

    public int toss(int d) {
        int refusal = shelfRefusal(d, HOLDS_LIGHT);
        if (refusal != 0) {
            return refusal;
        }
        Light failing = shelves[d].light;
        try {
            failing.fail();
        } catch (IllegalArgumentException ofGas) {
            return 200 + failing.setting;
        } catch (IllegalStateException ofKept) {
            return 100 + failing.number;
        } catch (UnsupportedOperationException ofOthers) {
            return failing.number;
        }
        return NO_FAILURE;
    }

    /** 0 if SHELF d holds what is wanted, else the first refusal. */
    private int shelfRefusal(int d, int wanted) {
        if (!within(d, 0, SHELVES - 1)) {
            return WRONG;
        }
        if (shelves[d].held == HOLDS_NOTHING) {
            return NOTHING_HELD;
        }
        return shelves[d].held == wanted ? 0 : OTHER_KIND;
    }

    /** 0 if SHELF d holds a ROW of bytes, else the first refusal. */
    private int textRefusal(int d) {
        int refusal = shelfRefusal(d, HOLDS_ROW);
        if (refusal != 0) {
            return refusal;
        }
        return shelves[d].row.sort == BYTES ? 0 : OTHER_KIND;
    }

    private static boolean within(int n, int least, int most) {
        return n >= least && n <= most;
    }

    private static boolean isIn(int set, int k) {
        return (set >> k & 1) != 0;
    }

    /** A LIGHT, of any KIND. */
    private static final class Light {
        int number;
        int kind;
        int strength;
        int yellow;
        int setting;
        int hours;

        /** GIVES. */
        int shineIn(int damp) {
            return shineAfter(hours, damp);
        }

        /** What it GIVES, had it burnt so many HOURS. */
        int shineAfter(int burnt, int damp) {
            return Math.max(1, Math.min(99999, unheld(burnt, damp)));
        }

        private int unheld(int burnt, int damp) {
            switch (kind) {
                case CANDLE: return strength * setting / 120;
                case VINEGAR: return strength + 5 * (setting - 40);
                case GAS: return strength * (100 + setting) / 100 - damp;
                case GLOWING: return glow(burnt);
                case COLOURED: return strength - damp;
                case KEPT: return glow(burnt) - burnt / 20;
                default: return strength;
            }
        }

        private int glow(int burnt) {
            return strength * setting / 100 - burnt / 10;
        }

        /** By what it WANDERS. */
        int wanderIn(int damp) {
            switch (kind) {
                case CANDLE: return 3 + damp;
                case VINEGAR: return 3 + Math.abs(setting - 40);
                case GAS: return 6;
                case GLOWING: return 1;
                case COLOURED: return 7;
                case METAL: return 0;
                case KEPT: return 1 + hours / 100;
                default: return 3;
            }
        }

        boolean isAgedBy(int hundredths, int damp) {
            if (kind != GLOWING && kind != KEPT) {
                return false;
            }
            int fresh = shineAfter(0, damp);
            return (fresh - shineIn(damp)) * 100 >= hundredths * fresh;
        }

        /** Throws its FAILURE; which exception it is says how the FAILURE is numbered. */
        void fail() {
            if (kind == METAL || setting == 0) {
                return;
            }
            if (kind == GAS) {
                throw new IllegalArgumentException("a gas light failed");
            }
            if (kind == KEPT) {
                throw new IllegalStateException("a kept light failed");
            }
            throw new UnsupportedOperationException("a light failed");
        }

        void takeFrom(Light other) {
            number = other.number;
            kind = other.kind;
            strength = other.strength;
            yellow = other.yellow;
            setting = other.setting;
            hours = other.hours;
        }
    }

    /** An EYE: what it weighs yellow and blue, and how it leans to blue. */
    private static final class Eye {
        private int yellow = 100;
        private int blue = 100;
        private int lean;

        int weightOf(int what) {
            return what == 0 ? yellow : what == 1 ? blue : lean;
        }

        void change(int what, int n) {
            if (what == 0) {
                yellow = n;
            } else if (what == 1) {
                blue = n;
            } else {
                lean = n;
            }
        }

        /** SEEN. */
        long see(Light lit, int damp, int dim) {
            int forYellow = Math.max(1, yellow - dim * lean);
            return weigh(lit, lit.shineIn(damp), forYellow, blue + dim * lean);
        }

        static long weigh(Light lit, int shine, int forYellow, int forBlue) {
            return (long) shine * (lit.yellow * forYellow + (100 - lit.yellow) * forBlue);
        }

        void takeFrom(Eye other) {
            yellow = other.yellow;
            blue = other.blue;
            lean = other.lean;
        }
    }

    /** A MATCH: two LIGHTS were ALIKE to an EYE at a place, on a NIGHT. */
    private static final class Match {
        int a;
        int b;
        int eye;
        int x;
        int night;
        boolean isOut;

        boolean joins(int light) {
            return !isOut && (a == light || b == light);
        }

        int otherThan(int light) {
            return a == light ? b : a;
        }

        void takeFrom(Match other) {
            a = other.a;
            b = other.b;
            eye = other.eye;
            x = other.x;
            night = other.night;
            isOut = other.isOut;
        }
    }

    /** A BILL: what a HOUSE was paid for a LIGHT. */
    private static final class Bill {
        int house;
        int light;
        int price;
        long paid;

        void takeFrom(Bill other) {
            house = other.house;
            light = other.light;
            price = other.price;
            paid = other.paid;
        }
    }

    /** A SHELF has room for a LIGHT and for a ROW, and holds one of them at most. */
    private static final class Shelf {
        int held = HOLDS_NOTHING;
        final Light light = new Light();
        final Row row = new Row();
    }

    /** A ROW of any SORT; each element has been cut to its SORT. */
    private static final class Row {
        int sort;
        int size;
        final int[] elements = new int[MOST_ELEMENTS];

        void begin(int newSort, int newSize) {
            sort = newSort;
            size = newSize;
            for (int i = 0; i < MOST_ELEMENTS; i++) {
                elements[i] = 0;
            }
        }

        int lowestBits(int v) {
            return sort == BYTES ? (byte) v : sort == SHORTS ? (short) v : v;
        }

        private int leastNumber() {
            return sort == BYTES ? -128 : sort == SHORTS ? -32768 : Integer.MIN_VALUE;
        }

        /** Whether the MATCH that is told from i on is TIRED. */
        boolean isTiredAt(int i) {
            int least = leastNumber();
            for (int k = i; k < i + TOLD_EACH && k < size; k++) {
                if (elements[k] == least) {
                    return true;
                }
            }
            return false;
        }
    }

    /** All that THE IMAGE takes. */
    private static final class State {
        final Light[] lights = new Light[MOST_LIGHTS];
        int lightCount;
        int damp;
        final Eye[] eyes = new Eye[EYES];
        final Match[] matches = new Match[MOST_MATCHES];
        int matchCount;
        final Bill[] bills = new Bill[MOST_BILLS];
        int billCount;
        final int[] rule = new int[MOST_ELEMENTS];
        int ruleSize = 1;
        int standard = NONE;

        State() {
            for (int k = 0; k < MOST_LIGHTS; k++) {
                lights[k] = new Light();
            }
            for (int k = 0; k < EYES; k++) {
                eyes[k] = new Eye();
            }
            for (int k = 0; k < MOST_MATCHES; k++) {
                matches[k] = new Match();
            }
            for (int k = 0; k < MOST_BILLS; k++) {
                bills[k] = new Bill();
            }
            rule[0] = 'g';
        }

        void takeFrom(State other) {
            lightCount = other.lightCount;
            damp = other.damp;
            matchCount = other.matchCount;
            billCount = other.billCount;
            standard = other.standard;
            for (int k = 0; k < MOST_LIGHTS; k++) {
                lights[k].takeFrom(other.lights[k]);
            }
            for (int k = 0; k < EYES; k++) {
                eyes[k].takeFrom(other.eyes[k]);
            }
            for (int k = 0; k < MOST_MATCHES; k++) {
                matches[k].takeFrom(other.matches[k]);
            }
            for (int k = 0; k < MOST_BILLS; k++) {
                bills[k].takeFrom(other.bills[k]);
            }
            putInForce(other.rule, other.ruleSize);
        }

        void putInForce(int[] text, int size) {
            for (int i = 0; i < size && i < text.length && i < MOST_ELEMENTS; i++) {
                rule[i] = text[i];
            }
            ruleSize = size;
        }

        boolean isLight(int k) {
            return within(k, 0, lightCount - 1);
        }

        boolean isPair(int a, int b) {
            return isLight(a) && isLight(b) && a != b;
        }

        /** LIGHT k, or null. */
        Light lightAt(int k) {
            return isLight(k) ? lights[k] : null;
        }

        /** EYE k, or null. */
        Eye eyeAt(int k) {
            return within(k, 0, EYES - 1) ? eyes[k] : null;
        }

        /** MATCH k, or null. */
        Match matchAt(int k) {
            return within(k, 0, matchCount - 1) ? matches[k] : null;
        }

        /** The place for two LIGHTS that are there. */
        int placeFor(int a, int b, Eye seer, int dim) {
            return placeOf(seer.see(lights[a], damp, dim), seer.see(lights[b], damp, dim));
        }

        /** The new MATCH's number, or why there is none. */
        int addMatch(int a, int b, int eye, int x, int night) {
            if (!isPair(a, b) || !within(eye, 0, EYES - 1) || !within(x, 1, LAST_PLACE)
                    || !within(night, 0, 999)) {
                return WRONG;
            }
            if (matchCount >= MOST_MATCHES) {
                return NO_ROOM;
            }
            int number = matchCount;
            Match made = matches[number];
            made.a = a;
            made.b = b;
            made.eye = eye;
            made.x = x;
            made.night = night;
            made.isOut = false;
            matchCount++;
            return number;
        }

        int countOut() {
            int many = 0;
            for (int k = 0; k < matchCount; k++) {
                many += matches[k].isOut ? 1 : 0;
            }
            return many;
        }

        int allHours() {
            int sum = 0;
            for (int k = 0; k < lightCount; k++) {
                sum += lights[k].hours;
            }
            return sum;
        }
    }

    /** Finds the CHAIN of two LIGHTS, and what the one is to the other by it. */
    private static final class ChainFinder {
        private static final int TOO_FAR = LONGEST_CHAIN + 1;

        /** How many MATCHES each LIGHT is away from the CHAIN's end. */
        private final int[] away = new int[MOST_LIGHTS];
        final int[] path = new int[LONGEST_CHAIN];
        int length;
        long above;
        long below;

        /** Whether there is a CHAIN; if so, path and length tell it. */
        boolean find(State state, int a, int b) {
            measure(state, b);
            if (away[a] > LONGEST_CHAIN) {
                return false;
            }
            length = away[a];
            int here = a;
            for (int k = 0; k < length; k++) {
                // Each MATCH leads to one LIGHT, so the first that comes nearer, taken at every
                // LIGHT, makes the first CHAIN by their numbers.
                path[k] = firstNearer(state, here);
                here = state.matches[path[k]].otherThan(here);
            }
            return true;
        }

        private void measure(State state, int end) {
            for (int k = 0; k < MOST_LIGHTS; k++) {
                away[k] = TOO_FAR;
            }
            away[end] = 0;
            for (int far = 1; far <= LONGEST_CHAIN; far++) {
                for (int k = 0; k < state.matchCount; k++) {
                    Match joining = state.matches[k];
                    if (!joining.isOut) {
                        reach(joining.a, joining.b, far);
                        reach(joining.b, joining.a, far);
                    }
                }
            }
        }

        private void reach(int from, int to, int far) {
            if (away[from] == far - 1 && away[to] > far) {
                away[to] = far;
            }
        }

        private int firstNearer(State state, int here) {
            for (int k = 0; k < state.matchCount; k++) {
                Match joining = state.matches[k];
                if (joining.joins(here) && away[joining.otherThan(here)] == away[here] - 1) {
                    return k;
                }
            }
            return 0;
        }

        /** The CHAIN that was found from a on as a fraction: as told (0), at least (1), at most. */
        void multiply(State state, int a, int what) {
            above = 1;
            below = 1;
            int here = a;
            for (int k = 0; k < length; k++) {
                Match joining = state.matches[path[k]];
                boolean back = joining.b == here;
                // Told from its other end a MATCH's least is its most, turned over.
                int aside = what == 0 ? 0 : (what == 1) == back ? 1 : -1;
                long ofA = (long) (joining.x + aside) * (joining.x + aside);
                long ofB = (long) (100 - joining.x - aside) * (100 - joining.x - aside);
                above *= back ? ofB : ofA;
                below *= back ? ofA : ofB;
                here = joining.otherThan(here);
            }
            long common = greatestDivisor(above, below);
            if (common > 0) {
                above /= common;
                below /= common;
            }
        }

        private static long greatestDivisor(long one, long other) {
            long greater = one;
            long lesser = other;
            for (int turn = 0; turn < 1000 && lesser != 0; turn++) {
                long rest = greater % lesser;
                greater = lesser;
                lesser = rest;
            }
            return greater;
        }
    }

    /** Which LIGHTS are joined, by any number of MATCHES. */
    private static final class Groups {
        private final int[] groupOf = new int[MOST_LIGHTS];
        private final int[] sizes = new int[MOST_LIGHTS];
        private int many;

        void gather(State state) {
            many = state.lightCount;
            for (int k = 0; k < MOST_LIGHTS; k++) {
                groupOf[k] = k;
                sizes[k] = 1;
            }
            for (int k = 0; k < state.matchCount; k++) {
                Match joining = state.matches[k];
                if (!joining.isOut) {
                    unite(groupOf[joining.a], groupOf[joining.b]);
                }
            }
        }

        private void unite(int kept, int ended) {
            if (kept == ended) {
                return;
            }
            sizes[kept] += sizes[ended];
            for (int k = 0; k < MOST_LIGHTS; k++) {
                if (groupOf[k] == ended) {
                    groupOf[k] = kept;
                }
            }
        }

        boolean areJoined(int a, int b) {
            return groupOf[a] == groupOf[b];
        }

        int sizeWith(int a) {
            return sizes[groupOf[a]];
        }

        int countPairs() {
            int pairs = 0;
            for (int a = 0; a < many; a++) {
                for (int b = a + 1; b < many; b++) {
                    pairs += areJoined(a, b) ? 1 : 0;
                }
            }
            return pairs;
        }
    }

    /** The LAWS of an EYE, numbered by yellow, then blue, and which of them are LET. */
    private static final class LawBook {
        private static final int STEPS = 20;
        private static final int LAWS = 400;

        private final boolean[] isLet = new boolean[LAWS];
        int letCount;
        private int mostYellow;
        private int mostBlue;

        void read(State state, int eye, int slip) {
            for (int law = 0; law < LAWS; law++) {
                isLet[law] = true;
            }
            for (int k = 0; k < state.matchCount; k++) {
                if (!state.matches[k].isOut && state.matches[k].eye == eye) {
                    strike(state, state.matches[k], slip);
                }
            }
            sumUp();
        }

        private static int yellowOf(int law) {
            return (law / STEPS + 1) * 10;
        }

        private static int blueOf(int law) {
            return (law % STEPS + 1) * 10;
        }

        /** Strikes the LAWS that a MATCH does not let. */
        private void strike(State state, Match seen, int slip) {
            Light a = state.lights[seen.a];
            Light b = state.lights[seen.b];
            int shineA = a.shineIn(state.damp);
            int shineB = b.shineIn(state.damp);
            for (int law = 0; law < LAWS; law++) {
                if (isLet[law]) {
                    long seenA = Eye.weigh(a, shineA, yellowOf(law), blueOf(law));
                    long seenB = Eye.weigh(b, shineB, yellowOf(law), blueOf(law));
                    isLet[law] = isPlaceUpTo(seen.x + slip, seenA, seenB)
                            && !isPlaceUpTo(seen.x - slip - 1, seenA, seenB);
                }
            }
        }

        /** Counts the LAWS that are LET, and finds those that lean most to either colour. */
        private void sumUp() {
            letCount = 0;
            for (int law = 0; law < LAWS; law++) {
                if (isLet[law]) {
                    mostYellow = letCount == 0 || isYellower(law, mostYellow) ? law : mostYellow;
                    mostBlue = letCount == 0 || isYellower(mostBlue, law) ? law : mostBlue;
                    letCount++;
                }
            }
        }

        private static boolean isYellower(int law, int other) {
            return yellowOf(law) * blueOf(other) > yellowOf(other) * blueOf(law);
        }

        /** The i-th LAW that is LET. */
        int lawAt(int i) {
            int passed = 0;
            for (int law = 0; law < LAWS; law++) {
                if (isLet[law]) {
                    if (passed == i) {
                        return 1000 * yellowOf(law) + blueOf(law);
                    }
                    passed++;
                }
            }
            return NONE;
        }

        /**
         * PARTS. What one LIGHT is to another only rises, or only falls, as yellow comes to weigh
         * more against blue, so the LAWS at both ends hold the least and the greatest place.
         */
        int apart(State state, int a, int b) {
            return Math.abs(placeBy(mostYellow, state, a, b) - placeBy(mostBlue, state, a, b));
        }

        private static int placeBy(int law, State state, int a, int b) {
            Light one = state.lights[a];
            Light other = state.lights[b];
            int yellow = yellowOf(law);
            int blue = blueOf(law);
            return placeOf(Eye.weigh(one, one.shineIn(state.damp), yellow, blue),
                    Eye.weigh(other, other.shineIn(state.damp), yellow, blue));
        }
    }

    /** Reads a text as a RULE and works it out on the way, up to the FAULT if there is one. */
    private static final class RuleReader {
        private static final int DEEPEST = 6;
        private static final int MOST_DIGITS = 4;
        /** What is read behind the last byte: no byte is like it. */
        private static final int END = 256;
        private static final char[] LETTERS = {'g', 's', 't', 'h', 'w', 'd', 'y'};

        /** What the letters stand for, in the order of LETTERS. */
        private final int[] values = new int[7];
        private int[] text = new int[0];
        private int size;
        private int place;
        private int sign;
        private boolean failed;

        /** The FAULT of a text; NONE if it is a RULE. */
        int findFault(int[] written, int count) {
            begin(written, count);
            readSum(0);
            return failed || sign != END ? place : NONE;
        }

        /** A LIGHT PUT RIGHT by the RULE IN FORCE. */
        int workOut(State state, Light lit) {
            values[0] = lit.shineIn(state.damp);
            values[1] = lit.strength;
            values[2] = lit.setting;
            values[3] = lit.hours;
            values[4] = lit.wanderIn(state.damp);
            values[5] = state.damp;
            values[6] = lit.yellow;
            begin(state.rule, state.ruleSize);
            return readSum(0);
        }

        private void begin(int[] written, int count) {
            text = written;
            size = Math.min(count, written.length);
            place = -1;
            failed = false;
            step();
        }

        private void step() {
            place++;
            sign = place < size ? text[place] : END;
        }

        private void expect(int wanted) {
            if (failed || sign != wanted) {
                failed = true;
                return;
            }
            step();
        }

        private int readSum(int depth) {
            int value = readProduct(depth);
            for (int turn = 0; turn < size && !failed && (sign == '+' || sign == '-'); turn++) {
                boolean more = sign == '+';
                step();
                int part = readProduct(depth);
                value = more ? value + part : value - part;
            }
            return value;
        }

        private int readProduct(int depth) {
            int value = readAtom(depth);
            for (int turn = 0; turn < size && !failed && (sign == '*' || sign == '/'); turn++) {
                boolean times = sign == '*';
                step();
                int part = readAtom(depth);
                if (times) {
                    value *= part;
                } else {
                    value = part == 0 ? 0 : value / part;
                }
            }
            return value;
        }

        private int readAtom(int depth) {
            int first = sign;
            if (within(first, '0', '9')) {
                return readNumber();
            }
            if (first == '(' || first == '[') {
                if (depth >= DEEPEST) {
                    failed = true;
                    return 0;
                }
                step();
                int value = readSum(depth + 1);
                if (first == '[') {
                    expect(',');
                    value = failed ? 0 : Math.min(value, readSum(depth + 1));
                }
                expect(first == '(' ? ')' : ']');
                return value;
            }
            for (int k = 0; k < LETTERS.length && k < values.length; k++) {
                if (LETTERS[k] == first) {
                    step();
                    return values[k];
                }
            }
            failed = true;
            return 0;
        }

        /** A 0 is whole, so that a digit behind it is a FAULT, as a fifth digit is. */
        private int readNumber() {
            int value = sign - '0';
            boolean mayGoOn = value != 0;
            step();
            for (int digits = 1; digits < MOST_DIGITS && mayGoOn && within(sign, '0', '9'); digits++) {
                value = value * 10 + sign - '0';
                step();
            }
            return value;
        }
    }
}
