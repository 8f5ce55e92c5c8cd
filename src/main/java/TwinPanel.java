/**
 * A patch panel that reckons, worked step by step in two twins, one of doubles and one of floats.
 * Numbers go in and out as the bits of doubles; the bits are put together by arithmetic alone,
 * because LANGUAGE.md leaves no library for them.
 */
public final class TwinPanel {
    public static final int NONE = -1, UNKNOWN = -101, OUTSIDE = -102, STATE = -103, FULL = -104;

    private static final int PATCH = 0, START = 1, HOLD = 2;
    private static final int MODULES = 20, INPUTS = 6, POINTS = 8, ROW = 16;
    private static final int STRIPS = 6, SAMPLES = 120;
    private static final int LAST_TIME = 300, LONGEST_RUN = 100;
    private static final int SWEEPS = 6, SWEEP_STEPS = 40, HALVED_STEPS = 20;
    private static final int FAILED = -1000;

    private static final int SUM = 0, TURN = 1, GATHER = 2, TRACK = 3, PRODUCT = 4, QUOTIENT = 5, ROOT = 6,
        TABLE = 7, COMPARE = 8, RELAY = 9, PART = 10, DELAY = 11, LIMIT = 12, NOISE = 13;
    private static final int KINDS = 14;

    private static final int ANY_INPUT = -1;
    /** Of each kind the inputs that it needs, as a mask. */
    private static final int[] NEEDED = {ANY_INPUT, 1, ANY_INPUT, 3, 3, 3, 1, 1, 3, 7, 1, 1, 1, 0};

    private final Patch patch;
    private final Levels levels;
    private final Lamps lamps;
    private final Twin doubles;
    private final Twin floats;
    private final Strips strips;
    private final Trials trials;
    /** Of each gather the bits of its sum at START; of others 0. */
    private final long[] startRates;
    private final double[] greatestApart;
    private int currentMode;
    private int currentTime;
    private int brokenRule;
    private int stepsEver;

    public TwinPanel() {
        patch = new Patch();
        levels = new Levels(patch);
        lamps = new Lamps();
        doubles = new Twin(patch, levels, lamps, false);
        floats = new Twin(patch, levels, lamps, true);
        strips = new Strips();
        trials = new Trials(patch, levels);
        startRates = new long[MODULES];
        greatestApart = new double[MODULES];
        currentMode = PATCH;
    }

    // ---- patching

    public int module(int kind, long setting) {
        if (kind < 0 || kind >= KINDS || !Patch.fits(kind, Numbers.decoded(setting))) {
            return OUTSIDE;
        }
        if (currentMode != PATCH) {
            return STATE;
        }
        if (patch.size >= MODULES) {
            return FULL;
        }
        return patch.add(kind, setting);
    }

    public int cord(int m, int input, int from, boolean turned) {
        if (!patch.has(m) || (from != NONE && !patch.has(from))) {
            return UNKNOWN;
        }
        if (input < 0 || input >= INPUTS) {
            return OUTSIDE;
        }
        if (currentMode != PATCH) {
            return STATE;
        }
        patch.tie(m, input, from, turned);
        return 1;
    }

    public int point(int m, long x, long y) {
        if (!patch.has(m)) {
            return UNKNOWN;
        }
        double px = Numbers.decoded(x);
        double py = Numbers.decoded(y);
        if (patch.kinds[m] != TABLE || !Numbers.inRange(px) || !Numbers.inRange(py) || !patch.isBehindPoints(m, px)) {
            return OUTSIDE;
        }
        if (currentMode != PATCH) {
            return STATE;
        }
        if (patch.pointCounts[m] >= POINTS) {
            return FULL;
        }
        return patch.addPoint(m, px, py);
    }

    public int begin(int m, long v) {
        if (!patch.has(m)) {
            return UNKNOWN;
        }
        double value = Numbers.decoded(v);
        if (!Numbers.inRange(value) || !Patch.remembers(patch.kinds[m])) {
            return OUTSIDE;
        }
        if (currentMode != PATCH) {
            return STATE;
        }
        patch.startBits[m] = v;
        patch.startValues[m] = value;
        return 1;
    }

    public int setting(int m, long s) {
        if (!patch.has(m)) {
            return UNKNOWN;
        }
        if (!Patch.fits(patch.kinds[m], Numbers.decoded(s))) {
            return OUTSIDE;
        }
        if (currentMode != PATCH) {
            return STATE;
        }
        patch.set(m, s);
        return 1;
    }

    public int rule(int rule, int k) {
        if (rule < 0 || rule > 2 || k < 1 || k > 20) {
            return OUTSIDE;
        }
        if (currentMode != PATCH) {
            return STATE;
        }
        patch.stepRule = rule;
        patch.stepPower = k;
        return 1;
    }

    // ---- checks, levels

    public int check() {
        brokenRule = firstBrokenRule();
        return brokenRule == 0 ? 0 : leastThatBreaks(brokenRule) + 1;
    }

    public int broken() {
        return brokenRule;
    }

    public int level(int m) {
        if (!patch.has(m)) {
            return UNKNOWN;
        }
        levels.refresh();
        return levels.of[m];
    }

    private int firstBrokenRule() {
        levels.refresh();
        for (int broken = 1; broken <= 3; broken++) {
            if (leastThatBreaks(broken) != NONE) {
                return broken;
            }
        }
        return 0;
    }

    private int leastThatBreaks(int broken) {
        for (int m = 0; m < patch.size; m++) {
            if (breaks(m, broken)) {
                return m;
            }
        }
        return NONE;
    }

    private boolean breaks(int m, int broken) {
        switch (broken) {
            case 1:
                return !patch.hasNeededInputs(m);
            case 2:
                return patch.kinds[m] == TABLE && patch.pointCounts[m] < 2;
            default:
                return levels.isOnCircle(m);
        }
    }

    // ---- modes, runs

    public int mode(int m) {
        if (m != PATCH && m != START) {
            return OUTSIDE;
        }
        // broken() tells of check() alone, so this look at the rules is not kept
        if (m == START && firstBrokenRule() != 0) {
            return STATE;
        }
        int before = currentMode;
        currentMode = m;
        if (m == START) {
            toStart();
        }
        return before;
    }

    public int now() {
        return currentMode;
    }

    public int run(int n) {
        if (n < 1 || n > LONGEST_RUN) {
            return OUTSIDE;
        }
        if (currentMode == PATCH) {
            return STATE;
        }
        if (currentTime + n > LAST_TIME || !strips.haveRoomFor(n)) {
            return FULL;
        }
        currentMode = HOLD;
        for (int done = 0; done < n; done++) {
            int failing = patch.leastFailingAt(currentTime + 1);
            if (failing != NONE) {
                return FAILED - failing;
            }
            doStep();
        }
        return n;
    }

    public int fail(int m, int time) {
        if (!patch.has(m)) {
            return UNKNOWN;
        }
        if (time < 0 || time > LAST_TIME) {
            return OUTSIDE;
        }
        patch.failTimes[m] = time;
        return 1;
    }

    public int time() {
        return currentTime;
    }

    public long reading(int m) {
        return isRead(m) ? Numbers.bitsOf(doubles.readings[m]) : 0L;
    }

    public int single(int m) {
        return isRead(m) ? Numbers.floatBitsOf(floats.readings[m]) : 0;
    }

    public int lamp(int m) {
        return patch.has(m) ? lamps.times[m] : UNKNOWN;
    }

    public long apart(int m) {
        return isRead(m) ? Numbers.bitsOf(greatestApart[m]) : 0L;
    }

    public long rate(int m) {
        return isRead(m) ? startRates[m] : 0L;
    }

    private boolean isRead(int m) {
        return currentMode != PATCH && patch.has(m);
    }

    private void toStart() {
        currentTime = 0;
        lamps.putOut();
        doubles.toStart(NONE, 0.0);
        floats.toStart(NONE, 0.0);
        strips.clear();
        strips.take(doubles.readings);
        for (int m = 0; m < patch.size; m++) {
            greatestApart[m] = 0.0;
            startRates[m] = patch.kinds[m] == GATHER ? doubles.sumBits(m) : 0L;
        }
        noteApart();
    }

    private void doStep() {
        // a lamp that lights in a stage tells the time that the step makes
        lamps.now = currentTime + 1;
        double length = Numbers.powerOfHalf(patch.stepPower);
        doubles.advance(length);
        floats.advance(length);
        currentTime++;
        stepsEver++;
        strips.take(doubles.readings);
        noteApart();
    }

    private void noteApart() {
        for (int m = 0; m < patch.size; m++) {
            double gap = Numbers.sizeOf(doubles.readings[m] - floats.readings[m]);
            if (gap > greatestApart[m]) {
                greatestApart[m] = gap;
            }
        }
    }

    // ---- strips

    public int strip(int m) {
        if (!patch.has(m)) {
            return UNKNOWN;
        }
        if (currentMode != PATCH) {
            return STATE;
        }
        if (strips.size >= STRIPS) {
            return FULL;
        }
        return strips.add(m);
    }

    public int samples(int s) {
        return strips.has(s) ? strips.lengths[s] : UNKNOWN;
    }

    public long sample(int s, int i) {
        if (!strips.has(s) || i < 0 || i >= strips.lengths[s]) {
            return 0L;
        }
        return strips.at(s, i);
    }

    public int crossing(int s, int k) {
        return strips.has(s) ? strips.place(s, k, false) : UNKNOWN;
    }

    public int peak(int s, int k) {
        return strips.has(s) ? strips.place(s, k, true) : UNKNOWN;
    }

    // ---- trials

    public int sweep(int m, long from, long by, int count, int n, int q) {
        if (!patch.has(m) || !patch.has(q)) {
            return UNKNOWN;
        }
        if (count < 1 || count > SWEEPS || n < 1 || n > SWEEP_STEPS) {
            return OUTSIDE;
        }
        // 0 times an infinity would be no number
        if (!Numbers.isFinite(from) || !Numbers.isFinite(by)) {
            return OUTSIDE;
        }
        double first = Numbers.decoded(from);
        double more = Numbers.decoded(by);
        for (int j = 0; j < count; j++) {
            if (!Patch.fits(patch.kinds[m], first + j * more)) {
                return OUTSIDE;
            }
        }
        if (currentMode == PATCH) {
            return STATE;
        }
        trials.sweptCount = count;
        for (int j = 0; j < count; j++) {
            trials.sweptReadings[j] = trials.readingBehind(m, first + j * more, n, q);
        }
        return count;
    }

    public long swept(int j) {
        return j >= 0 && j < trials.sweptCount ? Numbers.bitsOf(trials.sweptReadings[j]) : 0L;
    }

    public long halved(int q, int n) {
        if (!isRead(q) || n < 1 || n > HALVED_STEPS) {
            return 0L;
        }
        return Numbers.bitsOf(trials.greatestGap(q, n));
    }

    // ---- what is told

    public int about(int m, int what) {
        if (!patch.has(m)) {
            return UNKNOWN;
        }
        if (what < 0 || what > 14) {
            return OUTSIDE;
        }
        if (what == 0) {
            return patch.kinds[m];
        }
        if (what <= 6) {
            return patch.from[m * INPUTS + what - 1];
        }
        if (what <= 12) {
            return patch.turned[m * INPUTS + what - 7] ? 1 : 0;
        }
        return what == 13 ? patch.pointCounts[m] : patch.failTimes[m];
    }

    public int count(int what) {
        switch (what) {
            case 0:
                return patch.size;
            case 1:
                return strips.size;
            case 2:
                return patch.cords();
            case 3:
                levels.refresh();
                return levels.greatest();
            case 4:
                return lamps.lit(patch.size);
            case 5:
                return stepsEver;
            case 6:
                return patch.stepRule;
            case 7:
                return patch.stepPower;
            default:
                return OUTSIDE;
        }
    }

    public long digest() {
        long h = with(with(47L, currentMode), currentTime);
        for (int m = 0; m < patch.size; m++) {
            h = withModule(h, m);
        }
        for (int s = 0; s < strips.size; s++) {
            h = with(h, strips.lengths[s]);
            for (int i = 0; i < strips.lengths[s]; i++) {
                h = with(h, strips.at(s, i));
            }
        }
        return h;
    }

    private long withModule(long before, int m) {
        long h = with(with(before, patch.kinds[m]), patch.settingBits[m]);
        for (int i = m * INPUTS; i < (m + 1) * INPUTS; i++) {
            h = with(with(h, patch.from[i]), patch.turned[i] ? 1L : 0L);
        }
        h = with(h, patch.startBits[m]);
        if (currentMode == PATCH) {
            return h;
        }
        h = with(h, Numbers.bitsOf(doubles.readings[m]));
        h = with(h, Numbers.floatBitsOf(floats.readings[m]));
        return with(h, lamps.times[m]);
    }

    private static long with(long h, long number) {
        return 31L * h + number;
    }

    /** Doubles and floats from and to their bits, and what arithmetic the language leaves out. */
    private static final class Numbers {
        private static final int FRACTION = 52, BIAS = 1023, ALL_ONES = 2047;
        private static final int FLOAT_FRACTION = 23, FLOAT_BIAS = 127;
        private static final int SHIFT_BITS = 11;
        private static final long SIGN = 1L << 63;
        private static final int FLOAT_SIGN = 1 << 31;

        private Numbers() {
        }

        static boolean isFinite(long bits) {
            return ((int) (bits >>> FRACTION) & ALL_ONES) != ALL_ONES;
        }

        /** The number of these bits; bits of no number come out as an infinity, which no range lets in. */
        static double decoded(long bits) {
            int exponent = (int) (bits >>> FRACTION) & ALL_ONES;
            long fraction = bits & ((1L << FRACTION) - 1L);
            long whole = exponent == 0 ? fraction : fraction | (1L << FRACTION);
            int shift = (exponent == 0 ? 1 : exponent) - BIAS - FRACTION;
            double size = scaled((double) whole, shift);
            return bits < 0L ? -size : size;
        }

        private static double scaled(double v, int shift) {
            double result = v;
            double factor = shift < 0 ? 0.5 : 2.0;
            int places = shift < 0 ? -shift : shift;
            for (int i = 0; i < SHIFT_BITS; i++) {
                if ((places >> i & 1) != 0) {
                    result *= factor;
                }
                factor *= factor;
            }
            return result;
        }

        static double powerOfHalf(int k) {
            return scaled(1.0, -k);
        }

        /** The bits of a finite double that is not -0.0. */
        static long bitsOf(double v) {
            return v < 0.0 ? packed(-v, FRACTION, BIAS) | SIGN : packed(v, FRACTION, BIAS);
        }

        /** The bits of a finite float, given as a double, that is not -0.0. */
        static int floatBitsOf(double v) {
            return v < 0.0 ? (int) packed(-v, FLOAT_FRACTION, FLOAT_BIAS) | FLOAT_SIGN
                : (int) packed(v, FLOAT_FRACTION, FLOAT_BIAS);
        }

        private static long packed(double size, int fraction, int bias) {
            if (size == 0.0) {
                return 0L;
            }
            double v = size;
            int exponent = 0;
            for (int i = 0; i < 40 && v < 1.0 / 4294967296.0; i++) {
                v *= 4294967296.0;
                exponent -= 32;
            }
            for (int i = 0; i < 40 && v < 1.0; i++) {
                v *= 2.0;
                exponent--;
            }
            for (int i = 0; i < 1100 && v >= 2.0; i++) {
                v *= 0.5;
                exponent++;
            }
            long whole = (long) (v * (double) (1L << fraction));
            int least = 1 - bias;
            if (exponent < least) {
                return whole >> (least - exponent);
            }
            return ((long) (exponent + bias) << fraction) + whole - (1L << fraction);
        }

        /** The square root, rounded once, of a number above 0 and up to 1.5, as readings are; 0.0 of those below. */
        static double root(double of) {
            if (of <= 0.0) {
                return 0.0;
            }
            double v = of;
            double back = 1.0;
            for (int i = 0; i < 40 && v < 1.0 / 4294967296.0; i++) {
                v *= 4294967296.0;
                back *= 1.0 / 65536.0;
            }
            for (int i = 0; i < 40 && v < 1.0; i++) {
                v *= 4.0;
                back *= 0.5;
            }
            // one bit more than a double holds; the root of a double is never half way between two
            long root = wholeRoot(v);
            return (double) ((root + 1L) >> 1) / 4503599627370496.0 * back;
        }

        /** Of v from 1.0 to below 4.0: the root of v times 2 to the 106, rounded down. */
        private static long wholeRoot(double v) {
            double near = (1.0 + v) * 0.5;
            for (int i = 0; i < 6; i++) {
                near = (near + v / near) * 0.5;
            }
            long root = (long) (near * 9007199254740992.0);
            // both products wrap, but what is between them is small, and so it is exact
            long rest = ((long) (v * 4503599627370496.0) << 54) - root * root;
            for (int i = 0; i < 64 && rest < 0L; i++) {
                root--;
                rest += 2L * root + 1L;
            }
            for (int i = 0; i < 64 && rest > 2L * root; i++) {
                rest -= 2L * root + 1L;
                root++;
            }
            return root;
        }

        static double sizeOf(double v) {
            return v < 0.0 ? -v : v;
        }

        static boolean inRange(double v) {
            return sizeOf(v) <= 1.5;
        }
    }

    /** What patching makes: modules, cords, points, start values, the rule; and when modules fail. */
    private static final class Patch {
        private int size;
        private int stepRule = 0;
        private int stepPower = 4;
        private boolean levelsAreStale = true;
        private final int[] kinds = new int[MODULES];
        private final long[] settingBits = new long[MODULES];
        private final double[] settingValues = new double[MODULES];
        private final long[] startBits = new long[MODULES];
        private final double[] startValues = new double[MODULES];
        private final int[] from = new int[MODULES * INPUTS];
        private final boolean[] turned = new boolean[MODULES * INPUTS];
        private final int[] pointCounts = new int[MODULES];
        private final double[] xs = new double[MODULES * POINTS];
        private final double[] ys = new double[MODULES * POINTS];
        private final int[] failTimes = new int[MODULES];

        static boolean remembers(int kind) {
            return kind == GATHER || kind == TRACK || kind == DELAY || kind == NOISE;
        }

        static boolean fits(int kind, double setting) {
            switch (kind) {
                case PART:
                    return Numbers.sizeOf(setting) <= 1.0;
                case DELAY:
                    return isWhole(setting, 1, ROW);
                case LIMIT:
                    return setting >= 0.0 && setting <= 1.5;
                case NOISE:
                    return isWhole(setting, 0, 1000000);
                default:
                    return setting == 0.0;
            }
        }

        private static boolean isWhole(double v, int least, int most) {
            return v >= least && v <= most && (double) (int) v == v;
        }

        boolean has(int m) {
            return m >= 0 && m < size;
        }

        int add(int kind, long setting) {
            int m = size;
            size++;
            kinds[m] = kind;
            set(m, setting);
            for (int i = 0; i < INPUTS; i++) {
                from[m * INPUTS + i] = NONE;
            }
            levelsAreStale = true;
            return m;
        }

        void set(int m, long setting) {
            settingBits[m] = setting;
            settingValues[m] = Numbers.decoded(setting);
        }

        void tie(int m, int input, int source, boolean isTurned) {
            from[m * INPUTS + input] = source;
            turned[m * INPUTS + input] = isTurned && source != NONE;
            levelsAreStale = true;
        }

        /** Whether x is above those of all points of a table, in both twins. */
        boolean isBehindPoints(int m, double x) {
            if (pointCounts[m] == 0) {
                return true;
            }
            double latest = xs[m * POINTS + pointCounts[m] - 1];
            return x > latest && (float) x > (float) latest;
        }

        int addPoint(int m, double x, double y) {
            int place = m * POINTS + pointCounts[m];
            xs[place] = x;
            ys[place] = y;
            pointCounts[m]++;
            return pointCounts[m];
        }

        boolean hasNeededInputs(int m) {
            int tied = 0;
            for (int i = 0; i < INPUTS; i++) {
                if (from[m * INPUTS + i] != NONE) {
                    tied |= 1 << i;
                }
            }
            int needed = NEEDED[kinds[m]];
            return needed == ANY_INPUT ? tied != 0 : (tied & needed) == needed;
        }

        int cords() {
            int tied = 0;
            for (int i = 0; i < size * INPUTS; i++) {
                if (from[i] != NONE) {
                    tied++;
                }
            }
            return tied;
        }

        int leastFailingAt(int time) {
            for (int m = 0; m < size; m++) {
                if (failTimes[m] == time) {
                    return m;
                }
            }
            return NONE;
        }
    }

    /** The levels of modules, the order in which they are read, and the circles of cords. */
    private static final class Levels {
        private final Patch patch;
        private final int[] of = new int[MODULES];
        private final int[] order = new int[MODULES];
        private int ordered;
        /** Of each module that does not remember, a mask of those that its cords come from. */
        private final int[] sources = new int[MODULES];

        Levels(Patch patch) {
            this.patch = patch;
        }

        void refresh() {
            if (!patch.levelsAreStale) {
                return;
            }
            patch.levelsAreStale = false;
            for (int m = 0; m < patch.size; m++) {
                boolean remembers = Patch.remembers(patch.kinds[m]);
                of[m] = remembers ? 0 : NONE;
                sources[m] = remembers ? 0 : sourcesOf(m);
            }
            // each round gives one level at least, or all that can be had are given
            for (int round = 0; round < patch.size; round++) {
                for (int m = 0; m < patch.size; m++) {
                    if (of[m] == NONE) {
                        of[m] = levelBehindSources(m);
                    }
                }
            }
            sort();
        }

        private int sourcesOf(int m) {
            int mask = 0;
            for (int i = m * INPUTS; i < (m + 1) * INPUTS; i++) {
                if (patch.from[i] != NONE) {
                    mask |= 1 << patch.from[i];
                }
            }
            return mask;
        }

        private int levelBehindSources(int m) {
            int greatest = 0;
            for (int source = 0; source < patch.size; source++) {
                if ((sources[m] >> source & 1) != 0) {
                    if (of[source] == NONE) {
                        return NONE;
                    }
                    greatest = Math.max(greatest, of[source]);
                }
            }
            return greatest + 1;
        }

        private void sort() {
            ordered = 0;
            for (int level = 0; level <= patch.size; level++) {
                for (int m = 0; m < patch.size; m++) {
                    if (of[m] == level) {
                        order[ordered] = m;
                        ordered++;
                    }
                }
            }
        }

        /** Whether a circle of cords goes through it and through none that remembers. */
        boolean isOnCircle(int m) {
            if (of[m] != NONE) {
                return false;
            }
            int reached = sources[m];
            for (int round = 0; round < patch.size; round++) {
                int more = reached;
                for (int source = 0; source < patch.size; source++) {
                    if ((reached >> source & 1) != 0) {
                        more |= sources[source];
                    }
                }
                reached = more;
            }
            return (reached >> m & 1) != 0;
        }

        int greatest() {
            int greatest = 0;
            for (int m = 0; m < patch.size; m++) {
                greatest = Math.max(greatest, of[m]);
            }
            return greatest;
        }
    }

    /** The time at which the lamp of each module first lit. */
    private static final class Lamps {
        private final int[] times = new int[MODULES];
        private int now;

        Lamps() {
            for (int m = 0; m < MODULES; m++) {
                times[m] = NONE;
            }
        }

        void putOut() {
            now = 0;
            for (int m = 0; m < MODULES; m++) {
                times[m] = NONE;
            }
        }

        void light(int m) {
            if (times[m] == NONE) {
                times[m] = now;
            }
        }

        int lit(int modules) {
            int lit = 0;
            for (int m = 0; m < modules; m++) {
                if (times[m] != NONE) {
                    lit++;
                }
            }
            return lit;
        }
    }

    /**
     * The panel in numbers of one sort. The twin of floats holds each float in a double: a sum, product,
     * quotient or root of floats that is rounded to a double and then to a float is the same float as if
     * it were rounded once, since a double has more than twice a float's bits and two.
     */
    private static final class Twin {
        private final Patch patch;
        private final Levels levels;
        private final Lamps lamps;
        private final boolean ofFloats;
        private final double[] readings = new double[MODULES];
        private final double[] settings = new double[MODULES];
        private final double[] states = new double[MODULES];
        private final double[] rows = new double[MODULES * ROW];
        private final int[] oldest = new int[MODULES];
        private final int[] seeds = new int[MODULES];
        /** States ahead of the step. */
        private final double[] ahead = new double[MODULES];
        /** What tracks and delays get by the step. */
        private final double[] coming = new double[MODULES];
        private final double[] first = new double[MODULES];
        private final double[] second = new double[MODULES];
        private final double[] third = new double[MODULES];
        private final double[] fourth = new double[MODULES];

        Twin(Patch patch, Levels levels, Lamps lamps, boolean ofFloats) {
            this.patch = patch;
            this.levels = levels;
            this.lamps = lamps;
            this.ofFloats = ofFloats;
        }

        private double rounded(double v) {
            return ofFloats ? (double) (float) v : v;
        }

        /** To START, with another setting of one module (NONE: of none). */
        void toStart(int changed, double setting) {
            for (int m = 0; m < patch.size; m++) {
                double s = m == changed ? setting : patch.settingValues[m];
                settings[m] = rounded(s);
                states[m] = rounded(patch.startValues[m]);
                seeds[m] = (int) s;
                oldest[m] = 0;
                for (int i = m * ROW; i < (m + 1) * ROW; i++) {
                    rows[i] = states[m];
                }
            }
            readAll();
        }

        void advance(double length) {
            double half = length * 0.5;
            keepComing();
            System.arraycopy(states, 0, ahead, 0, MODULES);
            sumsInto(first);
            if (patch.stepRule == 0) {
                moveStates(first, length);
            } else if (patch.stepRule == 1) {
                stage(first, length, second);
                addSecondToFirst();
                moveStates(first, half);
            } else {
                stage(first, half, second);
                stage(second, half, third);
                stage(third, length, fourth);
                weighIntoFirst();
                moveStates(first, length);
            }
            remember();
            readAll();
        }

        private void stage(double[] rates, double length, double[] next) {
            moveStates(rates, length);
            readAll();
            sumsInto(next);
        }

        private void sumsInto(double[] rates) {
            for (int m = 0; m < patch.size; m++) {
                if (patch.kinds[m] == GATHER) {
                    rates[m] = inputSum(m);
                }
            }
        }

        private void moveStates(double[] rates, double length) {
            for (int m = 0; m < patch.size; m++) {
                if (patch.kinds[m] == GATHER) {
                    states[m] = after(m, rounded(ahead[m] + rounded(length * rates[m])));
                }
            }
        }

        private void addSecondToFirst() {
            for (int m = 0; m < patch.size; m++) {
                if (patch.kinds[m] == GATHER) {
                    first[m] = rounded(first[m] + second[m]);
                }
            }
        }

        private void weighIntoFirst() {
            for (int m = 0; m < patch.size; m++) {
                if (patch.kinds[m] == GATHER) {
                    double sum = rounded(first[m] + rounded(2.0 * second[m]));
                    sum = rounded(sum + rounded(2.0 * third[m]));
                    sum = rounded(sum + fourth[m]);
                    first[m] = rounded(sum / 6.0);
                }
            }
        }

        /** Tracks and delays go by what was read ahead of the step, which its stages read over. */
        private void keepComing() {
            for (int m = 0; m < patch.size; m++) {
                if (patch.kinds[m] == TRACK) {
                    coming[m] = in(m, 1) > 0.0 ? in(m, 0) : states[m];
                } else if (patch.kinds[m] == DELAY) {
                    coming[m] = in(m, 0);
                }
            }
        }

        private void remember() {
            for (int m = 0; m < patch.size; m++) {
                if (patch.kinds[m] == TRACK) {
                    states[m] = coming[m];
                } else if (patch.kinds[m] == DELAY) {
                    rows[m * ROW + oldest[m]] = coming[m];
                    oldest[m] = oldest[m] + 1 < settings[m] ? oldest[m] + 1 : 0;
                } else if (patch.kinds[m] == NOISE) {
                    seeds[m] = 1664525 * seeds[m] + 1013904223;
                    states[m] = rounded((double) seeds[m] / 2147483648.0);
                }
            }
        }

        private void readAll() {
            for (int i = 0; i < levels.ordered; i++) {
                int m = levels.order[i];
                readings[m] = after(m, plainReading(m));
            }
        }

        private double after(int m, double v) {
            if (v > 1.5) {
                lamps.light(m);
                return 1.5;
            }
            if (v < -1.5) {
                lamps.light(m);
                return -1.5;
            }
            return v == 0.0 ? 0.0 : v;
        }

        private double plainReading(int m) {
            switch (patch.kinds[m]) {
                case SUM:
                    return inputSum(m);
                case TURN:
                    return -in(m, 0);
                case PRODUCT:
                    return rounded(in(m, 0) * in(m, 1));
                case QUOTIENT:
                    return quotient(m, in(m, 0), in(m, 1));
                case ROOT:
                    return rounded(Numbers.root(notBelowZero(m, in(m, 0))));
                case TABLE:
                    return fromTable(m, in(m, 0));
                case COMPARE:
                    return in(m, 0) > in(m, 1) ? 1.0 : -1.0;
                case RELAY:
                    return in(m, 2) > 0.0 ? in(m, 0) : in(m, 1);
                case PART:
                    return rounded(in(m, 0) * settings[m]);
                case DELAY:
                    return rows[m * ROW + oldest[m]];
                case LIMIT:
                    return limited(in(m, 0), settings[m]);
                default:
                    return states[m];
            }
        }

        private double in(int m, int input) {
            int source = patch.from[m * INPUTS + input];
            if (source == NONE) {
                return 0.0;
            }
            return patch.turned[m * INPUTS + input] ? -readings[source] : readings[source];
        }

        private double inputSum(int m) {
            double sum = 0.0;
            boolean any = false;
            for (int i = 0; i < INPUTS; i++) {
                if (patch.from[m * INPUTS + i] != NONE) {
                    sum = any ? rounded(sum + in(m, i)) : in(m, i);
                    any = true;
                }
            }
            return sum;
        }

        /** The bits of the sum, which is -0.0 just if each of its parts is: a reading of 0.0, turned. */
        long sumBits(int m) {
            boolean any = false;
            for (int i = m * INPUTS; i < (m + 1) * INPUTS; i++) {
                int source = patch.from[i];
                if (source != NONE) {
                    if (!patch.turned[i] || readings[source] != 0.0) {
                        return Numbers.bitsOf(inputSum(m));
                    }
                    any = true;
                }
            }
            return any ? Numbers.SIGN : 0L;
        }

        private double quotient(int m, double over, double under) {
            if (under != 0.0) {
                return rounded(over / under);
            }
            if (over == 0.0) {
                return 0.0;
            }
            lamps.light(m);
            return over > 0.0 ? 1.5 : -1.5;
        }

        private double notBelowZero(int m, double v) {
            if (v < 0.0) {
                lamps.light(m);
                return 0.0;
            }
            return v;
        }

        private double fromTable(int m, double v) {
            int begin = m * POINTS;
            int last = begin + patch.pointCounts[m] - 1;
            if (last <= begin || v <= rounded(patch.xs[begin])) {
                return rounded(patch.ys[begin]);
            }
            if (v >= rounded(patch.xs[last])) {
                return rounded(patch.ys[last]);
            }
            int next = begin + 1;
            while (next < last && rounded(patch.xs[next]) <= v) {
                next++;
            }
            double x = rounded(patch.xs[next - 1]);
            double y = rounded(patch.ys[next - 1]);
            double width = rounded(rounded(patch.xs[next]) - x);
            double height = rounded(rounded(patch.ys[next]) - y);
            double part = rounded(rounded(v - x) * height);
            return width > 0.0 ? rounded(rounded(part / width) + y) : y;
        }

        private static double limited(double v, double limit) {
            if (v > limit) {
                return limit;
            }
            return v < -limit ? -limit : v;
        }
    }

    /** Samples are kept as bits, since bits are what is asked for. */
    private static final class Strips {
        private int size;
        private final int[] modules = new int[STRIPS];
        private final int[] lengths = new int[STRIPS];
        private final long[] bits = new long[STRIPS * SAMPLES];

        boolean has(int s) {
            return s >= 0 && s < size;
        }

        int add(int m) {
            modules[size] = m;
            lengths[size] = 0;
            size++;
            return size - 1;
        }

        long at(int s, int i) {
            return bits[s * SAMPLES + i];
        }

        boolean haveRoomFor(int more) {
            for (int s = 0; s < size; s++) {
                if (lengths[s] + more > SAMPLES) {
                    return false;
                }
            }
            return true;
        }

        void clear() {
            for (int s = 0; s < size; s++) {
                lengths[s] = 0;
            }
        }

        void take(double[] readings) {
            for (int s = 0; s < size; s++) {
                if (lengths[s] < SAMPLES) {
                    bits[s * SAMPLES + lengths[s]] = Numbers.bitsOf(readings[modules[s]]);
                    lengths[s]++;
                }
            }
        }

        /** The k-th place of a peak, or of a crossing. */
        int place(int s, int k, boolean ofPeak) {
            int found = 0;
            for (int i = 1; i < lengths[s]; i++) {
                if (ofPeak ? isPeak(s, i) : isCrossing(s, i)) {
                    if (found == k) {
                        return i;
                    }
                    found++;
                }
            }
            return NONE;
        }

        private boolean isCrossing(int s, int i) {
            return at(s, i) > 0L != at(s, i - 1) > 0L;
        }

        private boolean isPeak(int s, int i) {
            return i + 1 < lengths[s] && rank(at(s, i)) > rank(at(s, i - 1)) && rank(at(s, i)) >= rank(at(s, i + 1));
        }

        /** Bits of doubles grow with the size; of numbers below 0 they must fall with it to compare as longs. */
        private static long rank(long sample) {
            return sample >= 0L ? sample : Numbers.SIGN - sample;
        }
    }

    /** A panel of its own for trials, so that they leave the other as it was. */
    private static final class Trials {
        private final Patch patch;
        private final Twin twin;
        private final double[] sweptReadings = new double[SWEEPS];
        private int sweptCount;
        private final double[] whole = new double[HALVED_STEPS];

        Trials(Patch patch, Levels levels) {
            this.patch = patch;
            twin = new Twin(patch, levels, new Lamps(), false);
        }

        double readingBehind(int m, double setting, int steps, int q) {
            double length = Numbers.powerOfHalf(patch.stepPower);
            twin.toStart(m, setting);
            for (int i = 0; i < steps; i++) {
                twin.advance(length);
            }
            return twin.readings[q];
        }

        double greatestGap(int q, int n) {
            double length = Numbers.powerOfHalf(patch.stepPower);
            twin.toStart(NONE, 0.0);
            for (int j = 0; j < n; j++) {
                twin.advance(length);
                whole[j] = twin.readings[q];
            }
            double greatest = 0.0;
            twin.toStart(NONE, 0.0);
            for (int j = 0; j < n; j++) {
                twin.advance(length * 0.5);
                twin.advance(length * 0.5);
                double gap = Numbers.sizeOf(whole[j] - twin.readings[q]);
                greatest = gap > greatest ? gap : greatest;
            }
            return greatest;
        }
    }
}
