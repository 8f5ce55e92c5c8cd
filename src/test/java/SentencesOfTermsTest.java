import java.io.IOException;
import java.util.function.ToLongFunction;

/** The document from its first line to the promises: each sentence, in its words, with what holds it to them. */
public final class SentencesOfTermsTest {
    private static final int NONE = TwinPanel.NONE;

    private static long b(double v) {
        return Due.bits(v);
    }

    private static boolean remembers(int kind) {
        return kind == Panels.GATHER || kind == Panels.TRACK || kind == Panels.DELAY || kind == Panels.NOISE;
    }

    /** y' = -y from here, at START. */
    private static TwinPanel decaying(double y, int rule, int k) {
        TwinPanel x = new TwinPanel();
        x.module(Panels.GATHER, 0L);
        x.cord(0, 0, 0, true);
        x.begin(0, b(y));
        x.rule(rule, k);
        x.mode(1);
        return x;
    }

    private static void whatItIs() {
        Sentences.terms("A patch panel that reckons: modules tied by cords, worked step by step in two twins, one of "
            + "doubles and one of floats;");
        Kinds.kind(Panels.SUM, 0.0, 0.1 + 0.7, 0.1f + 0.7f, NONE, 0.1, 0.7);
        Sentences.terms("what remembers goes by one of three rules, what does not is read in levels;");
        double[] due = {0.5, 0.625, 1.0 + 0.5 * (-4.71875 / 6.0)};
        for (int rule = 0; rule < 3; rule++) {
            TwinPanel x = decaying(1.0, rule, 1);
            x.run(1);
            Due.dueNumber("reading(0) by rule " + rule, x.reading(0), due[rule]);
        }
        Due.due("level(1) of what does not remember", Panels.fed(Panels.TURN, 0.0, 0.5).level(1), 1);
        Sentences.terms("lamps light where a number was too great;");
        Kinds.kind(Panels.SUM, 0.0, 1.5, 1.5f, 0, 1.0, 0.75);
        Kinds.kind(Panels.SUM, 0.0, 1.25, 1.25f, NONE, 0.5, 0.75);
        Sentences.terms("strips, crossings, peaks, sweeps, runs at half the step;");
        TwinPanel x = Panels.playing(-0.5, 1.0, 0.25);
        x.mode(1);
        x.run(2);
        Due.due("samples(0)", x.samples(0), 3);
        Due.due("crossing(0, 0)", x.crossing(0, 0), 1);
        Due.due("peak(0, 0)", x.peak(0, 0), 1);
        Due.due("sweep", x.sweep(0, b(1.0), b(1.0), 2, 1, 0), 2);
        Due.dueNumber("halved(0, 1)", decaying(1.0, 0, 1).halved(0, 1), 0.0625);
        Sentences.terms("a run in which a module fails is as it was ahead of that step.");
        TwinPanel y = decaying(1.0, 0, 1);
        y.fail(0, 3);
        Due.due("run(9)", y.run(9), -1000);
        Due.due("time()", y.time(), 2);
        Due.dueNumber("reading(0)", y.reading(0), 0.25);
        Sentences.terms("======== 1 NUMBERS are doubles told by their bits (no NaN).");
        TwinPanel z = Panels.noises(0.0, 0.0);
        Due.due("begin(0, the bits of -0.75)", z.begin(0, 0xbfe8000000000000L), 1);
        Due.due("begin(1, the bits of the least number)", z.begin(1, 1L), 1);
        Due.due("begin(1, bits of no number)", z.begin(1, 0x7ff8000000000000L), TwinPanel.OUTSIDE);
        z.mode(1);
        Due.due("reading(0)", z.reading(0), 0xbfe8000000000000L);
        Due.due("reading(1)", z.reading(1), 1L);
        Sentences.terms("An object is used for at most 512 calls after it has been made; what later calls answer is "
            + "free.");
        lastOfManyCalls();
    }

    /** The 512th call answers as a young object does; the calls ahead of it are the dearest ones. */
    private static void lastOfManyCalls() {
        TwinPanel x = Panels.noises(0.5);
        x.rule(2, 3);
        x.mode(1);
        TwinPanel young = Panels.noises(0.5);
        young.rule(2, 3);
        young.mode(1);
        long halved = young.halved(0, 20);
        for (int call = 5; call < 512; call++) {
            if (call % 2 == 0) {
                Due.due("call " + call, x.halved(0, 20), halved);
            } else {
                Due.due("call " + call, x.sweep(0, 0L, b(1.0), 6, 40, 0), 6);
            }
        }
        Due.due("call 512", x.digest(), young.digest());
    }

    private static void modules() {
        Sentences.terms("MODULES 0, 1, .. (20 at most, numbered as they come) have a KIND, a SETTING s, INPUTS 0 to 5, "
            + "each with a CORD from a MODULE, plain or TURNED, or none (at first), and a START VALUE (0.0 at first; "
            + "its size is 1.5 at most).");
        TwinPanel x = new TwinPanel();
        for (int m = 0; m < 20; m++) {
            int kind = m % 14;
            Due.due("module of kind " + kind, x.module(kind, Panels.settingOf(kind)), m);
            Due.due("its kind", x.about(m, 0), kind);
            for (int i = 0; i < 6; i++) {
                Due.due("cord " + i + " at first", x.about(m, 1 + i), NONE);
                Due.due("turned " + i + " at first", x.about(m, 7 + i), 0);
            }
        }
        Due.due("the 21st", x.module(0, 0L), TwinPanel.FULL);
        for (int i = 0; i < 6; i++) {
            Due.due("cord(2, " + i + ")", x.cord(2, i, 19 - i, i % 2 == 1), 1);
        }
        for (int i = 0; i < 6; i++) {
            Due.due("cord " + i, x.about(2, 1 + i), 19 - i);
            Due.due("turned " + i, x.about(2, 7 + i), i % 2);
        }
        TwinPanel y = new TwinPanel();
        y.module(Panels.NOISE, b(7.0));
        long before = y.digest();
        y.begin(0, 0L);
        Due.due("digest() with the START VALUE 0.0", y.digest(), before);
        y.setting(0, b(7.0));
        Due.due("digest() with the SETTING that it was made with", y.digest(), before);
        Due.due("begin(0, 1.5)", y.begin(0, b(1.5)), 1);
        Due.due("begin(0, -1.5)", y.begin(0, b(-1.5)), 1);
        Due.due("begin(0, more)", y.begin(0, b(Math.nextUp(1.5))), TwinPanel.OUTSIDE);
        Due.due("begin(0, less)", y.begin(0, b(-Math.nextUp(1.5))), TwinPanel.OUTSIDE);
    }

    private static void twins() {
        Sentences.terms("All is worked twice: in doubles, and in floats:");
        Kinds.kind(Panels.PRODUCT, 0.0, 0.1 * 0.3, 0.1f * 0.3f, NONE, 0.1, 0.3);
        Sentences.terms("there SETTINGS, START VALUES, points are the nearest floats of these;");
        Kinds.kind(Panels.PART, 0.3, 0.3, 0.3f, NONE, 1.0);
        Kinds.reads("a start value", Panels.noises(0.1), 0, 0.1, 0.1f, NONE);
        TwinPanel x = Panels.fed(Panels.TABLE, 0.0, 0.2);
        x.point(1, b(0.2), b(0.7));
        x.point(1, b(0.3), b(0.9));
        Kinds.reads("a point's x and y", x, 1, 0.7, 0.7f, NONE);
        Sentences.terms("each act below is done in the twin's own numbers, and rounded once.");
        Kinds.kind(Panels.SUM, 0.0, 0.1 + 0.2 + 0.7, 0.1f + 0.2f + 0.7f, NONE, 0.1, 0.2, 0.7);
        Kinds.kind(Panels.SUM, 0.0, 1.0 + 0x1.0p-23, 1.0f, NONE, 1.0, 0x1.0p-24, 0x1.0p-24);
        Kinds.kind(Panels.QUOTIENT, 0.0, 0.1 / 0.7, 0.1f / 0.7f, NONE, 0.1, 0.7);
        Sentences.terms("A MODULE has a READING (a double) and a SINGLE (a float).");
        TwinPanel y = Panels.noises(0.1);
        y.mode(1);
        Due.due("reading(0)", y.reading(0), Double.doubleToRawLongBits(0.1));
        Due.due("single(0)", y.single(0), Float.floatToRawIntBits(0.1f));
    }

    private static void after() {
        Sentences.terms("AFTER v: v, but 1.5 or -1.5, with its sign, if its size is above 1.5 (a LAMP lights);");
        Kinds.kind(Panels.SUM, 0.0, 1.4375, 1.4375f, NONE, 0.6875, 0.75);
        Kinds.kind(Panels.SUM, 0.0, 1.5, 1.5f, NONE, 0.75, 0.75);
        Kinds.kind(Panels.SUM, 0.0, -1.5, -1.5f, NONE, -0.75, -0.75);
        Kinds.kind(Panels.SUM, 0.0, 1.5, 1.5f, 0, 0.75, 0.8);
        Kinds.kind(Panels.SUM, 0.0, -1.5, -1.5f, 0, -0.75, -0.8);
        Sentences.terms("0.0 for -0.0.");
        Kinds.kind(Panels.TURN, 0.0, 0.0, 0.0f, NONE, 0.0);
        Sentences.terms("The LAMP of a MODULE is the TIME at which it first lit (in either twin, also in the stages of "
            + "the STEP that made that TIME), or NONE.");
        TwinPanel x = Panels.playing(0.5, 0.5, 1.0, 0.25, 1.5);
        x.module(Panels.SUM, 0L);
        x.cord(5, 0, 0, false);
        x.cord(5, 1, 0, false);
        x.mode(1);
        int[] due = {NONE, NONE, 2, 2, 2, 2};
        for (int time = 0; time < 6; time++) {
            Due.due("lamp(5) at " + time, x.lamp(5), due[time]);
            Due.due("lamp(0) at " + time, x.lamp(0), NONE);
            x.run(1);
        }
        Kinds.kind(Panels.SUM, 0.0, 1.5, 1.5f, 0, 1.5, 0x1.0p-52);
        Kinds.kind(Panels.QUOTIENT, 0.0, 2.2e-45 / 2.0e-45, 1.5f, 0, 2.2e-45, 2.0e-45);
        for (int rule = 1; rule < 3; rule++) {
            TwinPanel y = thereAndBack(rule);
            y.run(1);
            Due.dueNumber("reading(0) by rule " + rule, y.reading(0), 1.0);
            Due.due("lamp(0), lit in a stage of rule " + rule, y.lamp(0), 1);
        }
    }

    /** The gather goes up by 3 below 1.25 and down by 3 above: 1.0 is 1.0 again, by stages above 1.5. */
    private static TwinPanel thereAndBack(int rule) {
        TwinPanel x = new TwinPanel();
        x.module(Panels.GATHER, 0L);
        x.module(Panels.NOISE, 0L);
        x.module(Panels.COMPARE, 0L);
        for (int i = 0; i < 3; i++) {
            x.cord(0, i, 2, false);
        }
        x.cord(2, 0, 1, false);
        x.cord(2, 1, 0, false);
        x.begin(0, b(1.0));
        x.begin(1, b(1.25));
        x.rule(rule, 1);
        x.mode(1);
        return x;
    }

    private static void ins() {
        Sentences.terms("IN i is the READING (SINGLE) of the MODULE at the other end of the CORD of INPUT i, with the "
            + "other sign, if that is TURNED.");
        for (int input = 0; input < 6; input++) {
            TwinPanel x = Panels.noises(0.1, 0.2);
            x.module(Panels.SUM, 0L);
            x.cord(2, input, 1, false);
            Kinds.reads("a plain cord at " + input, x, 2, 0.2, 0.2f, NONE);
            x.mode(0);
            x.cord(2, input, 0, true);
            Kinds.reads("a turned cord at " + input, x, 2, -0.1, -0.1f, NONE);
        }
        Sentences.terms("THE SUM is IN of the least INPUT that has a CORD, and those of others to it, one after the "
            + "other, by numbers.");
        double[] parts = {0.3, -0.7, 0.1, 0.9, -0.4};
        TwinPanel x = Panels.noises(parts);
        x.module(Panels.SUM, 0L);
        for (int i = 4; i >= 0; i--) {
            x.cord(5, 1 + i, i, false);
        }
        Kinds.reads("a sum of inputs 1 to 5", x, 5, (((0.3 + -0.7) + 0.1) + 0.9) + -0.4,
            (((0.3f + -0.7f) + 0.1f) + 0.9f) + -0.4f, NONE);
        Kinds.kind(Panels.SUM, 0.0, 1.0, 1.0f, NONE, 1.0, 0x1.0p-53, 0x1.0p-53);
        Kinds.kind(Panels.SUM, 0.0, 1.0 + 0x1.0p-52, 1.0f, NONE, 0x1.0p-53, 0x1.0p-53, 1.0);
    }

    /** A module of the kind passes check() with cords at these inputs, and not without one of them. */
    private static void needs(int kind, int... inputs) {
        int needed = 0;
        for (int i : inputs) {
            needed |= 1 << i;
        }
        for (int mask = 0; mask < 64; mask++) {
            due("check() of kind " + kind + ", cords " + mask, kind, mask, (mask & needed) == needed ? 0 : 2);
        }
    }

    private static void needsOneAtLeast(int kind) {
        for (int mask = 0; mask < 64; mask++) {
            due("check() of kind " + kind + ", cords " + mask, kind, mask, mask != 0 ? 0 : 2);
        }
    }

    private static void due(String what, int kind, int mask, int due) {
        TwinPanel x = Panels.noises(0.5);
        x.module(kind, Panels.settingOf(kind));
        x.point(1, b(-0.5), 0L);
        x.point(1, b(0.5), 0L);
        for (int i = 0; i < 6; i++) {
            x.cord(1, i, (mask >> i & 1) != 0 ? 0 : NONE, false);
        }
        Due.due(what, x.check(), due);
    }

    private static void kinds() {
        Sentences.terms("KINDS, what they read (AFTER it), which INPUTS they need:");
        Due.due("module(0)", new TwinPanel().module(0, 0L), 0);
        Due.due("module(13)", new TwinPanel().module(13, 0L), 0);
        Due.due("module(-1)", new TwinPanel().module(-1, 0L), TwinPanel.OUTSIDE);
        Due.due("module(14)", new TwinPanel().module(14, 0L), TwinPanel.OUTSIDE);
        Sentences.terms("0 SUM: THE SUM (one at least).");
        Kinds.kind(0, 0.0, 0.6 - 0.9, 0.6f - 0.9f, NONE, 0.6, -0.9);
        Kinds.kind(0, 0.0, 1.5, 1.5f, 0, 1.0, 1.0);
        needsOneAtLeast(0);
        Sentences.terms("1 TURN: IN 0 with the other sign (0).");
        Kinds.kind(1, 0.0, -0.6, -0.6f, NONE, 0.6);
        needs(1, 0);
        Sentences.terms("2 GATHER: its STATE (one at least).");
        TwinPanel g = Panels.fed(2, 0.0, 0.6);
        g.begin(1, b(-0.2));
        Kinds.reads("a gather", g, 1, -0.2, -0.2f, NONE);
        needsOneAtLeast(2);
        Sentences.terms("3 TRACK: its STATE (0, 1).");
        TwinPanel t = Panels.fed(3, 0.0, 0.6, 0.5);
        t.begin(2, b(-0.2));
        Kinds.reads("a track", t, 2, -0.2, -0.2f, NONE);
        needs(3, 0, 1);
        Sentences.terms("4 PRODUCT: IN 0 times IN 1 (0, 1).");
        Kinds.kind(4, 0.0, 0.6 * -0.7, 0.6f * -0.7f, NONE, 0.6, -0.7);
        Kinds.kind(4, 0.0, -1.5, -1.5f, 0, 1.4, -1.3);
        needs(4, 0, 1);
        Sentences.terms("5 QUOTIENT: IN 0 by IN 1; if that is 0: 0.0, if IN 0 is 0, else 1.5 with the sign of IN 0, "
            + "and the LAMP lights (0, 1).");
        Kinds.kind(5, 0.0, 0.6 / -0.7, 0.6f / -0.7f, NONE, 0.6, -0.7);
        Kinds.kind(5, 0.0, 0.0, 0.0f, NONE, 0.0, 0.0);
        Kinds.kind(5, 0.0, 1.5, 1.5f, 0, 0.6, 0.0);
        Kinds.kind(5, 0.0, -1.5, -1.5f, 0, -0.6, 0.0);
        needs(5, 0, 1);
        Sentences.terms("6 ROOT: the square root of IN 0; below 0: 0.0, and the LAMP lights (0).");
        Kinds.kind(6, 0.0, Math.sqrt(0.6), (float) Math.sqrt(0.6f), NONE, 0.6);
        Kinds.kind(6, 0.0, 0.0, 0.0f, NONE, 0.0);
        Kinds.kind(6, 0.0, 0.0, 0.0f, 0, -0.6);
        needs(6, 0);
        Sentences.terms("7 TABLE: of points (x, y), 2 to 8 of them, by x: y of the first, if IN 0 is its x or below; y "
            + "of the last, if IN 0 is its x or above; else of the last point whose x is not above IN 0, and the next "
            + "one: (IN 0 less x) times (next y less y), by (next x less x), and y (0).");
        tables();
        needs(7, 0);
    }

    private static TwinPanel table(double in, int points) {
        TwinPanel x = Panels.fed(7, 0.0, in);
        for (int i = 0; i < points; i++) {
            Due.due("point " + i, x.point(1, b(-0.7 + 0.2 * i), b(i % 2 == 0 ? 0.1 * i : -0.3)), i + 1);
        }
        return x;
    }

    private static void tables() {
        Due.due("check() of one point", table(0.0, 1).check(), 2);
        Due.due("check() of two", table(0.0, 2).check(), 0);
        Due.due("the ninth", table(0.0, 8).point(1, b(1.5), 0L), TwinPanel.FULL);
        Kinds.reads("below the first", table(-1.0, 8), 1, 0.0, 0.0f, NONE);
        Kinds.reads("at the first", table(-0.7, 8), 1, 0.0, 0.0f, NONE);
        Kinds.reads("at the last", table(-0.7 + 0.2 * 7, 8), 1, -0.3, -0.3f, NONE);
        Kinds.reads("above the last", table(1.2, 8), 1, -0.3, -0.3f, NONE);
        double in = 0.15;
        double x = -0.7 + 0.2 * 4;
        double nextX = -0.7 + 0.2 * 5;
        double y = 0.1 * 4;
        float fx = (float) x;
        float fy = (float) y;
        Kinds.reads("behind the fifth", table(in, 8), 1, (in - x) * (-0.3 - y) / (nextX - x) + y,
            ((float) in - fx) * (-0.3f - fy) / ((float) nextX - fx) + fy, NONE);
    }

    private static void moreKinds() {
        Sentences.terms("8 COMPARE: 1.0, if IN 0 is above IN 1, else -1.0 (0, 1).");
        Kinds.kind(8, 0.0, 1.0, 1.0f, NONE, 0.6, 0.5);
        Kinds.kind(8, 0.0, -1.0, -1.0f, NONE, 0.6, 0.6);
        Kinds.kind(8, 0.0, -1.0, -1.0f, NONE, -0.6, 0.6);
        needs(8, 0, 1);
        Sentences.terms("9 RELAY: IN 0, if IN 2 is above 0, else IN 1 (0, 1, 2).");
        Kinds.kind(9, 0.0, 0.6, 0.6f, NONE, 0.6, 0.7, 0.1);
        Kinds.kind(9, 0.0, 0.7, 0.7f, NONE, 0.6, 0.7, 0.0);
        Kinds.kind(9, 0.0, 0.7, 0.7f, NONE, 0.6, 0.7, -0.1);
        needs(9, 0, 1, 2);
        Sentences.terms("10 PART: IN 0 times s (0).");
        Kinds.kind(10, -0.7, 0.6 * -0.7, 0.6f * -0.7f, NONE, 0.6);
        needs(10, 0);
        Sentences.terms("11 DELAY: the oldest of its row of s numbers (0).");
        TwinPanel x = Panels.fed(11, 2.0, 0.6);
        x.begin(1, b(0.1));
        Kinds.reads("a delay", x, 1, 0.1, 0.1f, NONE);
        x.run(1);
        Due.dueNumber("a delay of 2 behind one step", x.reading(1), 0.1);
        x.run(1);
        Due.dueNumber("a delay of 2 behind two", x.reading(1), 0.6);
        Due.dueSingle("in floats", x.single(1), 0.6f);
        needs(11, 0);
        Sentences.terms("12 LIMIT: IN 0, but s, if it is above s, less s, if it is below that (0).");
        Kinds.kind(12, 0.4, 0.3, 0.3f, NONE, 0.3);
        Kinds.kind(12, 0.4, 0.4, 0.4f, NONE, 0.6);
        Kinds.kind(12, 0.4, -0.4, -0.4f, NONE, -0.6);
        needs(12, 0);
        Sentences.terms("13 NOISE: its STATE (none).");
        Kinds.reads("a noise", Panels.noises(-0.2), 0, -0.2, -0.2f, NONE);
        needs(13);
    }

    private static void takes(int kind, double... settings) {
        for (double s : settings) {
            Due.due("module(" + kind + ", " + s + ")", new TwinPanel().module(kind, b(s)), 0);
        }
    }

    private static void refuses(int kind, double... settings) {
        for (double s : settings) {
            Due.due("module(" + kind + ", " + s + ")", new TwinPanel().module(kind, b(s)), TwinPanel.OUTSIDE);
        }
    }

    private static void settings() {
        Sentences.terms("SETTINGS: of PART -1.0 to 1.0;");
        takes(Panels.PART, -1.0, -0.3, 0.0, 0.7, 1.0);
        refuses(Panels.PART, -1.1, 1.1);
        Sentences.terms("of DELAY a whole number 1.0 to 16.0;");
        for (int s = 1; s <= 16; s++) {
            takes(Panels.DELAY, s);
            refuses(Panels.DELAY, s - 0.5);
        }
        refuses(Panels.DELAY, 0.0, 17.0, -1.0);
        Sentences.terms("of LIMIT 0.0 to 1.5;");
        takes(Panels.LIMIT, 0.0, 0.7, 1.5);
        refuses(Panels.LIMIT, -0.1, 1.6);
        Sentences.terms("of NOISE a whole number from 0.0 to 1000000.0;");
        takes(Panels.NOISE, 0.0, 1.0, 77.0, 1000000.0);
        refuses(Panels.NOISE, -1.0, 0.5, 999999.5, 1000001.0);
        Sentences.terms("of others 0.0.");
        for (int kind = 0; kind < 10; kind++) {
            takes(kind, 0.0);
            refuses(kind, 1.0, -1.0, 0.5);
        }
        Sentences.terms("GATHER, TRACK, DELAY, NOISE remember.");
        for (int kind = 0; kind < 14; kind++) {
            TwinPanel x = new TwinPanel();
            x.module(kind, Panels.settingOf(kind));
            Due.due("begin of kind " + kind, x.begin(0, b(0.5)), remembers(kind) ? 1 : TwinPanel.OUTSIDE);
        }
        Sentences.terms("LEVEL: 0 of these;");
        for (int kind = 0; kind < 14; kind++) {
            if (remembers(kind)) {
                TwinPanel x = Panels.fed(Panels.SUM, 0.0, 0.5);
                x.module(kind, Panels.settingOf(kind));
                x.cord(2, 0, 1, false);
                Due.due("level of kind " + kind, x.level(2), 0);
            }
        }
        Sentences.terms("of others 1 more than the greatest one of MODULES at the other ends of their CORDS (1 without "
            + "CORDS).");
        TwinPanel x = Panels.fed(Panels.SUM, 0.0, 0.5);
        x.module(Panels.RELAY, 0L);
        x.module(Panels.RELAY, 0L);
        x.cord(2, 0, 1, false);
        x.cord(3, 0, 0, false);
        x.cord(3, 1, 2, false);
        x.cord(3, 2, 1, false);
        x.module(Panels.TURN, 0L);
        int[] due = {0, 1, 2, 3, 1};
        for (int m = 0; m < due.length; m++) {
            Due.due("level(" + m + ")", x.level(m), due[m]);
        }
    }

    private static void modes() {
        Sentences.terms("======== 2 MODES: 0 PATCH (at first), 1 START, 2 HOLD.");
        TwinPanel x = Panels.noises(0.5);
        Due.due("now() at first", x.now(), 0);
        x.mode(1);
        Due.due("now() at START", x.now(), 1);
        x.run(1);
        Due.due("now() in HOLD", x.now(), 2);
        Sentences.terms("At START: TIME is 0;");
        Due.due("time() in HOLD", x.time(), 1);
        x.mode(1);
        Due.due("time() at START", x.time(), 0);
        Sentences.terms("STATES are START VALUES, a DELAY's row is all this;");
        TwinPanel y = decaying(0.7, 0, 2);
        y.run(3);
        y.mode(1);
        Due.dueNumber("a gather", y.reading(0), 0.7);
        TwinPanel t = Panels.fed(Panels.TRACK, 0.0, 0.6, 0.5);
        t.begin(2, b(-0.2));
        t.mode(1);
        t.run(1);
        Due.dueNumber("a track behind a step", t.reading(2), 0.6);
        t.mode(1);
        Due.dueNumber("a track", t.reading(2), -0.2);
        TwinPanel d = Panels.fed(Panels.DELAY, 3.0, 0.6);
        d.begin(1, b(-0.3));
        d.mode(1);
        d.run(7);
        d.mode(1);
        for (int i = 0; i < 3; i++) {
            Due.dueNumber("a delay of 3 at " + i, d.reading(1), -0.3);
            d.run(1);
        }
        Due.dueNumber("a delay of 3 at 3", d.reading(1), 0.6);
        Sentences.terms("a NOISE's seed is s, as an int, and its STATE START VALUE;");
        TwinPanel n = new TwinPanel();
        n.module(Panels.NOISE, b(5.0));
        n.begin(0, b(0.25));
        for (int again = 0; again < 2; again++) {
            n.mode(1);
            Due.dueNumber("a noise", n.reading(0), 0.25);
            n.run(1);
            Due.dueNumber("a noise behind a step", n.reading(0), (1664525 * 5 + 1013904223) / 2147483648.0);
        }
    }

    private static void start() {
        Sentences.terms("LAMPS are out;");
        TwinPanel x = thereAndBack(1);
        x.run(1);
        Due.due("lamp(0)", x.lamp(0), 1);
        Due.due("count(4)", x.count(4), 1);
        x.mode(1);
        Due.due("lamp(0) at START", x.lamp(0), NONE);
        Due.due("count(4) at START", x.count(4), 0);
        Sentences.terms("STRIPS are empty;");
        TwinPanel y = Panels.held();
        Due.due("samples(0)", y.samples(0), 8);
        y.mode(1);
        Due.due("sample(0, 1) at START", y.sample(0, 1), 0L);
        Sentences.terms("all MODULES are READ, and what STRIPS are of comes to them.");
        TwinPanel z = Panels.fed(Panels.TURN, 0.0, 0.5);
        z.strip(1);
        z.mode(1);
        Due.dueNumber("reading(1)", z.reading(1), -0.5);
        Due.due("samples(0)", z.samples(0), 1);
        Due.dueNumber("sample(0, 0)", z.sample(0, 0), -0.5);
        // within a level no one reads another, so that order shows in no answer; that of levels does
        Sentences.terms("READ: level by level, within a level by numbers.");
        TwinPanel chain = new TwinPanel();
        for (int m = 0; m < 4; m++) {
            chain.module(m == 3 ? Panels.NOISE : Panels.TURN, 0L);
            chain.cord(m, 0, Math.min(m + 1, 3), false);
        }
        for (int m = 0; m < 3; m++) {
            chain.cord(m, 0, m + 1, false);
        }
        chain.begin(3, b(0.5));
        Kinds.reads("a chain against its numbers", chain, 0, -0.5, -0.5f, NONE);
    }

    /** Gathers 0 and 1 turn round each other: 0' = 1, 1' = -0 less the product of both. */
    private static TwinPanel wound(double y, double v, int rule, int k) {
        TwinPanel x = new TwinPanel();
        x.module(Panels.GATHER, 0L);
        x.module(Panels.GATHER, 0L);
        x.module(Panels.PRODUCT, 0L);
        x.cord(0, 3, 1, false);
        x.cord(1, 1, 0, true);
        x.cord(1, 4, 2, true);
        x.cord(2, 0, 0, false);
        x.cord(2, 1, 1, false);
        x.begin(0, b(y));
        x.begin(1, b(v));
        x.rule(rule, k);
        x.mode(1);
        return x;
    }

    private static double[] rate(double y, double v) {
        return new double[] {v, -y + -(y * v)};
    }

    private static double[] moved(double[] from, double t, double[] rate) {
        return new double[] {from[0] + t * rate[0], from[1] + t * rate[1]};
    }

    private static double[] stepped(double[] from, double t, int rule) {
        double[] first = rate(from[0], from[1]);
        if (rule == 0) {
            return moved(from, t, first);
        }
        double[] to = moved(from, rule == 1 ? t : t / 2.0, first);
        double[] second = rate(to[0], to[1]);
        if (rule == 1) {
            return moved(from, t / 2.0, new double[] {first[0] + second[0], first[1] + second[1]});
        }
        to = moved(from, t / 2.0, second);
        double[] third = rate(to[0], to[1]);
        to = moved(from, t, third);
        double[] fourth = rate(to[0], to[1]);
        double[] all = new double[2];
        for (int i = 0; i < 2; i++) {
            all[i] = (((first[i] + 2.0 * second[i]) + 2.0 * third[i]) + fourth[i]) / 6.0;
        }
        return moved(from, t, all);
    }

    private static float[] rate(float y, float v) {
        return new float[] {v, -y + -(y * v)};
    }

    private static float[] moved(float[] from, float t, float[] rate) {
        return new float[] {from[0] + t * rate[0], from[1] + t * rate[1]};
    }

    private static float[] stepped(float[] from, float t, int rule) {
        float[] first = rate(from[0], from[1]);
        if (rule == 0) {
            return moved(from, t, first);
        }
        float[] to = moved(from, rule == 1 ? t : t / 2.0f, first);
        float[] second = rate(to[0], to[1]);
        if (rule == 1) {
            return moved(from, t / 2.0f, new float[] {first[0] + second[0], first[1] + second[1]});
        }
        to = moved(from, t / 2.0f, second);
        float[] third = rate(to[0], to[1]);
        to = moved(from, t, third);
        float[] fourth = rate(to[0], to[1]);
        float[] all = new float[2];
        for (int i = 0; i < 2; i++) {
            all[i] = (((first[i] + 2.0f * second[i]) + 2.0f * third[i]) + fourth[i]) / 6.0f;
        }
        return moved(from, t, all);
    }

    /** Ten steps by the rule go as the document's words do, in both twins. */
    private static void goes(int rule, int k) {
        TwinPanel x = wound(0.6, -0.3, rule, k);
        double[] at = {0.6, -0.3};
        float[] single = {0.6f, -0.3f};
        double t = 1.0 / (1 << k);
        for (int time = 1; time <= 10; time++) {
            x.run(1);
            at = stepped(at, t, rule);
            single = stepped(single, (float) t, rule);
            for (int m = 0; m < 2; m++) {
                Due.dueNumber("reading(" + m + ") at " + time + ", k " + k, x.reading(m), at[m]);
                Due.dueSingle("single(" + m + ") at " + time + ", k " + k, x.single(m), single[m]);
            }
        }
    }

    private static void rules() {
        Sentences.terms("A STEP of length t (2 to the -k): for each GATHER its RATE is THE SUM of it, from what is "
            + "READ.");
        for (int k = 1; k <= 20; k++) {
            TwinPanel x = decaying(1.0, 0, k);
            x.run(1);
            Due.dueNumber("one step, k " + k, x.reading(0), 1.0 - 1.0 / (1 << k));
        }
        TwinPanel two = wound(0.5, 0.25, 0, 1);
        Due.dueNumber("rate(0)", two.rate(0), 0.25);
        Due.dueNumber("rate(1)", two.rate(1), -0.625);
        Sentences.terms("RULE 0: its new STATE is AFTER y and t times RATE.");
        goes(0, 2);
        goes(0, 5);
        afterOfRule(0);
        Sentences.terms("RULE 1: each GATHER's STATE becomes AFTER y and t times the first RATE, all are READ; the new "
            + "one is AFTER y and t by 2 times (the first RATE and the second RATE).");
        goes(1, 2);
        goes(1, 5);
        afterOfRule(1);
        Sentences.terms("RULE 2: STATES AFTER y and t by 2 times the first RATE, READ; AFTER y and t by 2 times the "
            + "second RATE, READ; AFTER y and t times the third RATE, READ: the fourth; the new one is AFTER y and t "
            + "times (((first and 2 times second) and 2 times third) and fourth, by 6).");
        goes(2, 2);
        goes(2, 5);
        afterOfRule(2);
        Sentences.terms("(y: the STATE ahead of the STEP.)");
        goes(1, 3);
        goes(2, 3);
    }

    /** y' = y from 1.25 by 1/2: each STATE that would be above 1.5 is 1.5, in stages too. */
    private static void afterOfRule(int rule) {
        TwinPanel x = new TwinPanel();
        x.module(Panels.GATHER, 0L);
        x.cord(0, 0, 0, false);
        x.begin(0, b(1.25));
        x.rule(rule, 1);
        x.mode(1);
        x.run(1);
        Due.dueNumber("reading(0) by rule " + rule, x.reading(0), 1.5);
        Due.due("lamp(0)", x.lamp(0), 1);
        TwinPanel y = new TwinPanel();
        y.module(Panels.GATHER, 0L);
        y.module(Panels.GATHER, 0L);
        y.cord(0, 0, 0, false);
        y.cord(1, 0, 0, false);
        y.begin(0, b(1.25));
        y.rule(rule, 1);
        y.mode(1);
        y.run(1);
        double[] due = {0.5 * 1.25, 0.25 * (1.25 + 1.5), 0.5 * ((((1.25 + 2.0 * 1.5) + 2.0 * 1.5) + 1.5) / 6.0)};
        Due.dueNumber("what gathers it, by rule " + rule, y.reading(1), due[rule]);
    }

    private static void whatRemembers() {
        Sentences.terms("TRACK: its new STATE is IN 0, if IN 1 is above 0, else as it was;");
        double[] gates = {0.5, 0.0, -0.5};
        for (double gate : gates) {
            TwinPanel x = Panels.fed(Panels.TRACK, 0.0, 0.6, gate);
            x.begin(2, b(-0.2));
            x.mode(1);
            x.run(1);
            Due.dueNumber("a track by " + gate, x.reading(2), gate > 0.0 ? 0.6 : -0.2);
            Due.dueSingle("in floats", x.single(2), gate > 0.0 ? 0.6f : -0.2f);
        }
        Sentences.terms("DELAY: IN 0 comes behind its row, the oldest one goes;");
        TwinPanel d = Panels.playing(0.1, 0.2, 0.3, 0.4);
        d.module(Panels.DELAY, b(2.0));
        d.cord(4, 0, 0, false);
        d.begin(4, b(-0.9));
        d.mode(1);
        double[] due = {-0.9, -0.9, 0.1, 0.2, 0.3, 0.4, 0.1};
        for (int time = 0; time < due.length; time++) {
            Due.dueNumber("a delay of 2 at " + time, d.reading(4), due[time]);
            d.run(1);
        }
        Sentences.terms("both by what was READ ahead of the STEP;");
        for (int rule = 0; rule < 3; rule++) {
            TwinPanel x = decaying(1.0, rule, 1);
            x.mode(0);
            x.module(Panels.TRACK, 0L);
            x.module(Panels.DELAY, b(1.0));
            x.cord(1, 0, 0, false);
            x.cord(1, 1, 0, false);
            x.cord(2, 0, 0, false);
            x.mode(1);
            for (int time = 0; time < 4; time++) {
                long ahead = x.reading(0);
                x.run(1);
                Due.due("a track behind step " + time + " of rule " + rule, x.reading(1), ahead);
                Due.due("a delay behind step " + time + " of rule " + rule, x.reading(2), ahead);
            }
        }
        Sentences.terms("NOISE: its seed becomes 1664525 times it and 1013904223 (an int that wraps), its new STATE is "
            + "the seed by 2147483648 (in floats the nearest one).");
        TwinPanel n = new TwinPanel();
        n.module(Panels.NOISE, b(1000000.0));
        n.mode(1);
        // worked by hand: 1664525 times 1000000 and 1013904223, less 388 times 2 to the 32; and so on
        int[] seeds = {-908406625, 187819378};
        for (int seed : seeds) {
            n.run(1);
            Due.dueNumber("a noise", n.reading(0), seed / 2147483648.0);
            Due.dueSingle("in floats", n.single(0), (float) (seed / 2147483648.0));
        }
        Sentences.terms("Those three are as they were in the stages of a STEP.");
        for (int rule = 1; rule < 3; rule++) {
            inStages(rule);
        }
    }

    /** Gathers of a noise, of a delay and of a track: rates that do not change within a step. */
    private static void inStages(int rule) {
        TwinPanel x = new TwinPanel();
        int[] kinds = {Panels.NOISE, Panels.DELAY, Panels.TRACK};
        for (int m = 0; m < 3; m++) {
            x.module(kinds[m], m == 1 ? b(1.0) : 0L);
        }
        for (int m = 3; m < 6; m++) {
            x.module(Panels.GATHER, 0L);
            x.cord(m, 0, m - 3, false);
        }
        x.cord(1, 0, 0, false);
        x.cord(2, 0, 0, false);
        x.cord(2, 1, 0, false);
        x.begin(0, b(0.75));
        x.begin(1, b(-0.5));
        x.begin(2, b(0.25));
        x.rule(rule, 1);
        x.mode(1);
        double[] rates = {0.75, -0.5, 0.25};
        x.run(1);
        for (int m = 0; m < 3; m++) {
            Due.dueNumber("by rule " + rule + " of kind " + kinds[m], x.reading(3 + m), 0.5 * rates[m]);
        }
    }

    private static void steps() {
        Sentences.terms("Then TIME is one more, all are READ, and come to STRIPS.");
        TwinPanel x = decaying(1.0, 0, 1);
        x.mode(0);
        x.module(Panels.TURN, 0L);
        x.cord(1, 0, 0, false);
        x.strip(1);
        x.mode(1);
        double due = 1.0;
        for (int time = 1; time <= 5; time++) {
            x.run(1);
            due = due / 2.0;
            Due.due("time()", x.time(), time);
            Due.dueNumber("reading(1)", x.reading(1), -due);
            Due.due("samples(0)", x.samples(0), 1 + time);
            Due.dueNumber("sample(0, " + time + ")", x.sample(0, time), -due);
        }
        Sentences.terms("A MODULE may be told to FAIL at a TIME: the STEP that would make that TIME is not done at "
            + "all.");
        TwinPanel y = Panels.held();
        y.fail(4, 8);
        String before = Told.now(y);
        Due.due("run(1)", y.run(1), -1004);
        Due.dueText("all", Told.now(y), before);
        Sentences.terms("======== 3 A STRIP (6 at most) is of a MODULE: its READINGS at START and behind each STEP "
            + "since, 120 at most.");
        TwinPanel s = Panels.noises(0.5);
        for (int i = 0; i < 6; i++) {
            Due.due("strip", s.strip(0), i);
        }
        Due.due("the seventh", s.strip(0), TwinPanel.FULL);
        s.mode(1);
        Due.dueNumber("sample(5, 0)", s.sample(5, 0), 0.5);
        s.run(100);
        Due.due("sample(5, 100)", s.sample(5, 100), s.reading(0));
        Due.due("run(19)", s.run(19), 19);
        Due.due("samples(5)", s.samples(5), 120);
        Due.due("run(1)", s.run(1), TwinPanel.FULL);
    }

    private static void placesOfStrips() {
        TwinPanel x = Panels.playing(0.5, 1.0, -0.25, 0.0, 0.75, 0.75, 0.0, -1.0, -0.5, -1.0);
        x.mode(1);
        x.run(9);
        Sentences.terms("A CROSSING is the place i (1 or more) of a sample that is above 0, while the one ahead of it "
            + "is not, or the other way round.");
        int[] crossings = {2, 4, 6, NONE};
        for (int k = 0; k < crossings.length; k++) {
            Due.due("crossing(0, " + k + ")", x.crossing(0, k), crossings[k]);
        }
        Sentences.terms("A PEAK is the place i of a sample that is above the one ahead of it, and not below the one "
            + "behind it (both are there).");
        int[] peaks = {1, 4, 8, NONE};
        for (int k = 0; k < peaks.length; k++) {
            Due.due("peak(0, " + k + ")", x.peak(0, k), peaks[k]);
        }
    }

    private static void refusals() {
        Sentences.terms("Refusals, of several the first as told by each call: UNKNOWN (no such MODULE, STRIP), OUTSIDE "
            + "(a number is not as told), STATE (another MODE is needed), FULL; they change nothing.");
        Told.leaves("cord of no such MODULE, to no such INPUT, in HOLD", -101, Panels::held,
            x -> x.cord(99, 99, 0, true));
        Told.leaves("cord to no such INPUT, in HOLD", -102, Panels::held, x -> x.cord(1, 99, 0, true));
        Told.leaves("cord in HOLD", -103, Panels::held, x -> x.cord(1, 0, 0, true));
        Told.leaves("a module of no KIND, to 20, in HOLD", -102, Panels::fullHeld, x -> x.module(14, 0L));
        Told.leaves("a module to 20, in HOLD", -103, Panels::fullHeld, x -> x.module(0, 0L));
        Told.leaves("a module to 20", -104, Panels::fullPatched, x -> x.module(0, 0L));
        Told.leaves("samples of no such STRIP", -101, Panels::held, x -> x.samples(2));
    }

    /** In each mode the call answers what is due there, and changes nothing. */
    private static void tells(String call, ToLongFunction<TwinPanel> made, long patched, long started, long held) {
        Told.leaves(call + " in PATCH", patched, Panels::patched, made);
        Told.leaves(call + " at START", started, Panels::started, made);
        Told.leaves(call + " in HOLD", held, Panels::held, made);
    }

    private static void interfaceSays() {
        Sentences.terms("Ahead of the calls `module`, `cord`, `point`, `begin`, `setting`, `rule` the interface says: "
            + "---- patching: in PATCH alone.");
        TwinPanel[] panels = {Panels.patched(), Panels.started(), Panels.held()};
        for (TwinPanel x : panels) {
            boolean isPatch = x.now() == Panels.PATCH;
            int due = isPatch ? 1 : TwinPanel.STATE;
            Due.due("module", x.module(0, 0L), isPatch ? Panels.MODULES : TwinPanel.STATE);
            Due.due("cord", x.cord(1, 0, 0, false), due);
            Due.due("point", x.point(Panels.TABLE_AT, b(1.0), 0L), isPatch ? 3 : TwinPanel.STATE);
            Due.due("begin", x.begin(1, b(0.5)), due);
            Due.due("setting", x.setting(Panels.PART_AT, b(0.25)), due);
            Due.due("rule", x.rule(1, 1), due);
        }
        Sentences.terms("Ahead of the calls `check`, `broken`, `level` the interface says: ---- checks, levels.");
        tells("level(7)", x -> x.level(7), 2, 2, 2);
        tells("broken()", x -> x.broken(), 1, 1, 1);
        for (TwinPanel x : panels) {
            x.check();
            Due.due("broken() behind check()", x.broken(), x.now() == Panels.PATCH ? 1 : 0);
        }
        Sentences.terms("Ahead of the calls `mode`, `now`, `run`, `fail`, `time`, `reading`, `single`, `lamp`, "
            + "`apart`, `rate` the interface says: ---- modes, runs.");
        tells("now()", x -> x.now(), 0, 1, 2);
        tells("time()", x -> x.time(), 7, 0, 7);
        TwinPanel h = Panels.held();
        TwinPanel s = Panels.started();
        tells("reading(1)", x -> x.reading(1), 0L, b(0.9), h.reading(1));
        tells("single(1)", x -> x.single(1), 0, Float.floatToRawIntBits(0.9f), h.single(1));
        tells("apart(1)", x -> x.apart(1), 0L, b(Math.abs(0.9 - (double) 0.9f)), h.apart(1));
        tells("rate(1)", x -> x.rate(1), 0L, b(0.3 - 0.9), b(0.3 - 0.9));
        tells("lamp(8)", x -> x.lamp(8), 0, 0, 0);
        Due.due("run(1) at START", s.run(1), 1);
        Due.due("fail(1, 9) in HOLD", s.fail(1, 9), 1);
        Sentences.terms("Ahead of the calls `strip`, `samples`, `sample`, `crossing`, `peak` the interface says: ---- "
            + "strips.");
        tells("samples(1)", x -> x.samples(1), 8, 1, 8);
        tells("sample(0, 0)", x -> x.sample(0, 0), b(0.9), b(0.9), b(0.9));
        tells("crossing(1, 0)", x -> x.crossing(1, 0), h.crossing(1, 0), NONE, h.crossing(1, 0));
        tells("peak(1, 0)", x -> x.peak(1, 0), h.peak(1, 0), NONE, h.peak(1, 0));
        Sentences.terms("Ahead of the calls `sweep`, `swept`, `halved` the interface says: ---- trials, behind which "
            + "all is as it was.");
        tells("sweep, as the latest one", x -> x.sweep(3, b(0.25), b(0.25), 3, 5, 8), TwinPanel.STATE, 3, 3);
        tells("swept(1)", x -> x.swept(1), h.swept(1), h.swept(1), h.swept(1));
        tells("halved(1, 9)", x -> x.halved(1, 9), 0L, h.halved(1, 9), h.halved(1, 9));
        Sentences.terms("Ahead of the calls `about`, `count`, `digest` the interface says: ---- what is told.");
        tells("about(3, 14)", x -> x.about(3, 14), 12, 12, 12);
        tells("count(5)", x -> x.count(5), 7, 7, 7);
        tells("digest()", x -> x.digest(), Panels.patched().digest(), Panels.started().digest(), h.digest());
    }

    public static void main(String[] args) throws IOException {
        whatItIs();
        Sentences.areAllFrom("## What it is", "## The public face");
        modules();
        twins();
        after();
        ins();
        kinds();
        moreKinds();
        settings();
        modes();
        start();
        rules();
        whatRemembers();
        steps();
        placesOfStrips();
        refusals();
        interfaceSays();
        Sentences.areAllFrom("## Terms", "## Promise 1: A new object");
        Due.end();
    }
}
