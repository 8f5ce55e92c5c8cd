/** Terms: what each kind reads, in both twins; lamps; the three rules; what remembers. */
public final class KindsTest {
    private static final int SUM = 0, TURN = 1, GATHER = 2, TRACK = 3, PRODUCT = 4, QUOTIENT = 5, ROOT = 6, TABLE = 7,
        COMPARE = 8, RELAY = 9, PART = 10, DELAY = 11, LIMIT = 12, NOISE = 13;

    private static long b(double v) {
        return Due.bits(v);
    }

    /** Modules 0 to 2 are noises that read these at START, 3 is of the kind and has them at inputs 0 to 2. */
    private static TwinPanel with(int kind, double setting, double... ins) {
        TwinPanel x = new TwinPanel();
        for (int i = 0; i < 3; i++) {
            x.module(NOISE, 0L);
            x.begin(i, b(i < ins.length ? ins[i] : 0.0));
        }
        x.module(kind, b(setting));
        for (int i = 0; i < ins.length; i++) {
            x.cord(3, i, i, false);
        }
        return x;
    }

    private static void reads(TwinPanel x, double due, float single, int lamp) {
        Due.due("mode(1)", x.mode(1), 0);
        Due.dueNumber("reading(3)", x.reading(3), due);
        Due.due("single(3)", x.single(3), Float.floatToRawIntBits(single));
        Due.due("lamp(3)", x.lamp(3), lamp);
        Due.dueNumber("apart(3)", x.apart(3), Math.abs(due - single));
    }

    private static void plainKinds() {
        reads(with(SUM, 0, 0.1, 0.2, 0.3), 0.1 + 0.2 + 0.3, 0.1f + 0.2f + 0.3f, -1);
        reads(with(SUM, 0, 1.0, 0.5), 1.5, 1.5f, -1);
        reads(with(SUM, 0, 1.0, Math.nextUp(0.5)), 1.5, 1.5f, -1);
        reads(with(SUM, 0, 1.5, 1.5, -1.5), 1.5, 1.5f, -1);
        reads(with(SUM, 0, 1.0, 0.75), 1.5, 1.5f, 0);
        reads(with(SUM, 0, -1.0, -0.75), -1.5, -1.5f, 0);
        reads(with(SUM, 0, -1.0, -0.5), -1.5, -1.5f, -1);
        reads(with(SUM, 0, 1.0, 0.4), 1.0 + 0.4, 1.0f + 0.4f, -1);
        reads(with(SUM, 0, -1.0, -0.4), -1.0 - 0.4, -1.0f - 0.4f, -1);
        reads(with(SUM, 0, 1.0, 0x1.0p-53, 0x1.0p-53), 1.0, 1.0f, -1);
        reads(with(TURN, 0, 0.1), -0.1, -0.1f, -1);
        reads(with(TURN, 0, 0.0), 0.0, 0.0f, -1);
        reads(with(PRODUCT, 0, 0.1, -0.7), 0.1 * -0.7, 0.1f * -0.7f, -1);
        reads(with(PRODUCT, 0, 1.5, -1.25), -1.5, -1.5f, 0);
        reads(with(PRODUCT, 0, 1.0e-30, 1.0e-12), 1.0e-30 * 1.0e-12, 1.0e-30f * 1.0e-12f, -1);
        reads(with(PRODUCT, 0, 1.0e-200, -1.0e-120), 1.0e-200 * -1.0e-120, 0.0f, -1);
        reads(with(PRODUCT, 0, -1.0e-200, 1.0e-200), 0.0, 0.0f, -1);
        reads(with(COMPARE, 0, 0.2, 0.1), 1.0, 1.0f, -1);
        reads(with(COMPARE, 0, 0.1, 0.1), -1.0, -1.0f, -1);
        reads(with(COMPARE, 0, Math.nextUp(0.5), 0.5), 1.0, -1.0f, -1);
        reads(with(RELAY, 0, 0.3, 0.4, 0.1), 0.3, 0.3f, -1);
        reads(with(RELAY, 0, 0.3, 0.4, 0.0), 0.4, 0.4f, -1);
        reads(with(RELAY, 0, 0.3, 0.4, 1.0e-60), 0.3, 0.4f, -1);
        reads(with(PART, -0.3, 0.7), 0.7 * -0.3, 0.7f * -0.3f, -1);
        reads(with(LIMIT, 0.3, 0.4), 0.3, 0.3f, -1);
        reads(with(LIMIT, 0.3, -0.4), -0.3, -0.3f, -1);
        reads(with(LIMIT, 0.3, 0.2), 0.2, 0.2f, -1);
        reads(with(LIMIT, 0.0, -0.2), 0.0, 0.0f, -1);
        reads(with(DELAY, 3.0, 0.2), 0.0, 0.0f, -1);
    }

    private static void quotientsAndRoots() {
        reads(with(QUOTIENT, 0, 0.1, 0.3), 0.1 / 0.3, 0.1f / 0.3f, -1);
        reads(with(QUOTIENT, 0, 0.0, 0.0), 0.0, 0.0f, -1);
        reads(with(QUOTIENT, 0, 0.1, 0.0), 1.5, 1.5f, 0);
        reads(with(QUOTIENT, 0, -0.1, 0.0), -1.5, -1.5f, 0);
        reads(with(QUOTIENT, 0, 0.0, -0.1), 0.0, 0.0f, -1);
        reads(with(QUOTIENT, 0, -1.0, Double.MIN_VALUE), -1.5, -1.5f, 0);
        reads(with(QUOTIENT, 0, 1.0e-60, 1.0e-60), 1.0, 0.0f, -1);
        reads(with(ROOT, 0, 0.5), Math.sqrt(0.5), (float) Math.sqrt(0.5f), -1);
        reads(with(ROOT, 0, 0.0), 0.0, 0.0f, -1);
        reads(with(ROOT, 0, Double.MIN_VALUE), Math.sqrt(Double.MIN_VALUE), 0.0f, -1);
        reads(with(ROOT, 0, -Double.MIN_VALUE), 0.0, 0.0f, 0);
        reads(with(ROOT, 0, -0.5), 0.0, 0.0f, 0);
    }

    private static TwinPanel table(double in) {
        TwinPanel x = with(TABLE, 0, in);
        x.point(3, b(-0.7), b(0.3));
        x.point(3, b(0.1), b(-0.9));
        x.point(3, b(0.8), b(1.1));
        return x;
    }

    private static void tables() {
        reads(table(-1.0), 0.3, 0.3f, -1);
        reads(table(-0.7), 0.3, 0.3f, -1);
        reads(table(0.8), 1.1, 1.1f, -1);
        reads(table(1.5), 1.1, 1.1f, -1);
        reads(table(-0.2), (-0.2 - -0.7) * (-0.9 - 0.3) / (0.1 - -0.7) + 0.3,
            (-0.2f - -0.7f) * (-0.9f - 0.3f) / (0.1f - -0.7f) + 0.3f, -1);
        reads(table(0.1), (0.1 - 0.1) * (1.1 - -0.9) / (0.8 - 0.1) + -0.9,
            (0.1f - 0.1f) * (1.1f - -0.9f) / (0.8f - 0.1f) + -0.9f, -1);
        reads(table(0.3), (0.3 - 0.1) * (1.1 - -0.9) / (0.8 - 0.1) + -0.9,
            (0.3f - 0.1f) * (1.1f - -0.9f) / (0.8f - 0.1f) + -0.9f, -1);
    }

    /** At a point's x its y is read, in floats too, whichever side of the double the float is on. */
    private static void tablesAtTheirPoints() {
        java.util.Random random = new java.util.Random(8);
        for (int round = 0; round < 600; round++) {
            double[] xs = {-1.5 * random.nextDouble(), 0.5 * random.nextDouble(), 0.6 + 0.9 * random.nextDouble()};
            double[] ys = new double[3];
            TwinPanel x = with(TABLE, 0, xs[round % 3]);
            for (int i = 0; i < 3; i++) {
                ys[i] = 3.0 * random.nextDouble() - 1.5;
                x.point(3, b(xs[i]), b(ys[i]));
            }
            reads(x, ys[round % 3], (float) ys[round % 3], -1);
        }
    }

    /** Between points, with acts that are each rounded in floats. */
    private static void manyTableReadings() {
        java.util.Random random = new java.util.Random(6);
        for (int round = 0; round < 3000; round++) {
            double ax = -1.5 * random.nextDouble();
            double bx = 1.5 * random.nextDouble();
            double ay = 3.0 * random.nextDouble() - 1.5;
            double by = 3.0 * random.nextDouble() - 1.5;
            double v = ax + (bx - ax) * random.nextDouble();
            TwinPanel x = with(TABLE, 0, v);
            x.point(3, b(ax), b(ay));
            x.point(3, b(bx), b(by));
            double due = (v - ax) * (by - ay) / (bx - ax) + ay;
            float fx = (float) ax;
            float fy = (float) ay;
            float dueSingle = ((float) v - fx) * ((float) by - fy) / ((float) bx - fx) + fy;
            reads(x, due, dueSingle, -1);
        }
    }

    /** Roots of many numbers, small ones too, ten at a time. */
    private static void manyRoots() {
        java.util.Random random = new java.util.Random(5);
        for (int round = 0; round < 400; round++) {
            TwinPanel x = new TwinPanel();
            for (int i = 0; i < 10; i++) {
                x.module(NOISE, 0L);
                x.module(ROOT, 0L);
                x.cord(2 * i + 1, 0, 2 * i, false);
            }
            for (int again = 0; again < 6; again++) {
                double[] ins = new double[10];
                for (int i = 0; i < 10; i++) {
                    double v = Math.scalb(0.75 + random.nextDouble() * 0.75, -random.nextInt(round < 200 ? 4 : 1070));
                    double nearSquare = Math.nextDown(Math.max(v * v, Double.MIN_NORMAL));
                    ins[i] = Math.min(again == 0 ? nearSquare : v, 1.5);
                    x.begin(2 * i, b(ins[i]));
                }
                x.mode(1);
                for (int i = 0; i < 10; i++) {
                    Due.dueNumber("in " + ins[i], x.reading(2 * i), ins[i]);
                    Due.dueNumber("root of " + ins[i], x.reading(2 * i + 1), Math.sqrt(ins[i]));
                    Due.due("float root of " + ins[i], x.single(2 * i + 1),
                        Float.floatToRawIntBits((float) Math.sqrt((float) ins[i])));
                }
                x.mode(0);
            }
        }
    }

    private static void turnedCords() {
        TwinPanel x = with(SUM, 0, 0.1, 0.2);
        x.cord(3, 1, 1, true);
        reads(x, 0.1 - 0.2, 0.1f - 0.2f, -1);
        TwinPanel y = with(ROOT, 0, -0.25);
        y.cord(3, 0, 0, true);
        reads(y, 0.5, 0.5f, -1);
        TwinPanel z = with(DELAY, 1.0, 0.0);
        z.cord(3, 0, 0, true);
        reads(z, 0.0, 0.0f, -1);
        z.run(1);
        Due.due("a turned 0.0 reads as 0.0", z.reading(3), 0L);
    }

    /** y' = -y by each rule, one step of 1/4, in both twins, from many starts. */
    private static void rules() {
        for (int i = 0; i < 300; i++) {
            int rule = i % 3;
            double y = i / 199.7;
            TwinPanel x = new TwinPanel();
            x.module(GATHER, 0L);
            x.cord(0, 2, 0, true);
            x.begin(0, b(y));
            x.rule(rule, 2);
            x.mode(1);
            Due.dueNumber("rate", x.rate(0), -y);
            Due.due("run(1)", x.run(1), 1);
            Due.dueNumber("by rule " + rule, x.reading(0), decayed(rule, y));
            Due.due("by rule " + rule + " in floats", x.single(0),
                Float.floatToRawIntBits(decayedFloat(rule, (float) y)));
        }
    }

    private static double decayed(int rule, double y) {
        double r1 = -y;
        if (rule == 0) {
            return y + 0.25 * r1;
        }
        if (rule == 1) {
            double r2 = -(y + 0.25 * r1);
            return y + 0.125 * (r1 + r2);
        }
        double r2 = -(y + 0.125 * r1);
        double r3 = -(y + 0.125 * r2);
        double r4 = -(y + 0.25 * r3);
        return y + 0.25 * ((((r1 + 2 * r2) + 2 * r3) + r4) / 6);
    }

    private static float decayedFloat(int rule, float y) {
        float r1 = -y;
        if (rule == 0) {
            return y + 0.25f * r1;
        }
        if (rule == 1) {
            float r2 = -(y + 0.25f * r1);
            return y + 0.125f * (r1 + r2);
        }
        float r2 = -(y + 0.125f * r1);
        float r3 = -(y + 0.125f * r2);
        float r4 = -(y + 0.25f * r3);
        return y + 0.25f * ((((r1 + 2 * r2) + 2 * r3) + r4) / 6);
    }

    /** In a stage the gather, and what is read of it, go beyond 1.5; behind the step they do not. */
    private static void lampsInStages() {
        TwinPanel x = new TwinPanel();
        x.module(GATHER, 0L);
        x.module(ROOT, 0L);
        x.module(NOISE, 0L);
        x.cord(1, 0, 0, true);
        x.cord(0, 0, 0, true);
        x.cord(0, 1, 0, true);
        x.cord(0, 2, 0, true);
        x.cord(0, 3, 0, true);
        x.cord(0, 4, 0, true);
        x.begin(0, b(0.5));
        x.rule(1, 1);
        x.mode(1);
        Due.due("lamp(1) at START: the root of -0.5", x.lamp(1), 0);
        x.mode(0);
        x.cord(1, 0, 0, false);
        x.mode(1);
        Due.due("lamp(1) is out at START", x.lamp(1), -1);
        Due.due("run(1)", x.run(1), 1);
        Due.dueNumber("behind the step", x.reading(0), 0.5 + 0.25 * (-2.5 + 3.75));
        Due.due("lamp(1) lit in the stage, at the time that was made", x.lamp(1), 1);
        Due.due("lamp(0) did not light", x.lamp(0), -1);
        Due.due("count(4)", x.count(4), 1);
    }

    /** 0.5 and 1.0 of noise: the gather is told to go to 1.5 and beyond, and its lamp lights once. */
    private static void lampOfAGather() {
        TwinPanel x = new TwinPanel();
        x.module(NOISE, 0L);
        x.module(COMPARE, 0L);
        x.module(GATHER, 0L);
        x.begin(0, b(1.0));
        x.cord(1, 0, 0, false);
        x.cord(1, 1, 0, false);
        x.cord(2, 0, 1, true);
        x.begin(2, b(0.5));
        x.rule(0, 1);
        x.mode(1);
        Due.due("run(2)", x.run(2), 2);
        Due.dueNumber("at 1.5", x.reading(2), 1.5);
        Due.due("lamp(2) at 1.5", x.lamp(2), -1);
        Due.due("run(3)", x.run(3), 3);
        Due.dueNumber("at 1.5 still", x.reading(2), 1.5);
        Due.due("lamp(2) tells the first time", x.lamp(2), 3);
        x.mode(0);
        Due.due("lamp(2) in PATCH", x.lamp(2), 3);
        Due.due("count(4) in PATCH", x.count(4), 1);
        x.mode(1);
        Due.due("lamp(2) at START", x.lamp(2), -1);
        Due.due("count(4) at START", x.count(4), 0);
    }

    /** Too great in one twin alone: the module's one lamp lights all the same. */
    private static void lampOfOneTwin() {
        reads(with(QUOTIENT, 0, 2.2e-45, 2.0e-45), 2.2e-45 / 2.0e-45, 1.5f, 0);
        reads(with(QUOTIENT, 0, 2.0e-45, 1.2e-45), 1.5, 1.0f, 0);
        reads(with(QUOTIENT, 0, 1.1e-45, 1.0e-45), 1.1e-45 / 1.0e-45, 1.0f, -1);
        reads(with(ROOT, 0, -1.0e-60), 0.0, 0.0f, 0);
    }

    private static void noise() {
        TwinPanel x = new TwinPanel();
        x.module(NOISE, b(999999.0));
        x.begin(0, b(-0.3));
        x.mode(1);
        int seed = 999999;
        Due.dueNumber("noise at START", x.reading(0), -0.3);
        for (int i = 0; i < 20; i++) {
            Due.due("run(1)", x.run(1), 1);
            seed = 1664525 * seed + 1013904223;
            Due.dueNumber("noise " + i, x.reading(0), seed / 2147483648.0);
            Due.due("noise in floats " + i, x.single(0), Float.floatToRawIntBits((float) (seed / 2147483648.0)));
        }
        x.mode(1);
        x.run(1);
        Due.dueNumber("noise again from START", x.reading(0), (1664525 * 999999 + 1013904223) / 2147483648.0);
    }

    /** A delay of 3 behind a noise, and a track of the noise that goes while the delay is above 0, by rule 2. */
    private static void delayAndTrack() {
        TwinPanel x = new TwinPanel();
        x.module(NOISE, b(3.0));
        x.module(DELAY, b(3.0));
        x.module(TRACK, 0L);
        x.cord(1, 0, 0, true);
        x.cord(2, 0, 0, false);
        x.cord(2, 1, 1, false);
        x.begin(0, b(0.9));
        x.begin(1, b(0.25));
        x.begin(2, b(-0.75));
        x.rule(2, 3);
        x.mode(1);
        double[] noise = new double[30];
        double[] delay = new double[30];
        double track = -0.75;
        for (int i = 0; i < 30; i++) {
            noise[i] = Double.longBitsToDouble(x.reading(0));
            delay[i] = i < 3 ? 0.25 : -noise[i - 3];
            if (i > 0 && delay[i - 1] > 0) {
                track = noise[i - 1];
            }
            Due.dueNumber("delay at " + i, x.reading(1), delay[i]);
            Due.dueNumber("track at " + i, x.reading(2), track);
            x.run(1);
        }
    }

    /** IN 1 at START and behind one step: only what is above 0 lets IN 0 through. */
    private static void trackAtZero() {
        double[] gates = {0.0, -0.5, Double.MIN_VALUE, 1.5};
        for (double gate : gates) {
            TwinPanel x = with(TRACK, 0, 0.75, gate);
            x.begin(3, b(-0.25));
            reads(x, -0.25, -0.25f, -1);
            x.run(1);
            Due.dueNumber("track by " + gate, x.reading(3), gate > 0.0 ? 0.75 : -0.25);
            Due.due("track in floats by " + gate, x.single(3),
                Float.floatToRawIntBits((float) gate > 0.0f ? 0.75f : -0.25f));
        }
    }

    /** A delay and a track of a gather take what was read ahead of the step, not what its stages read. */
    private static void rememberedAheadOfStages() {
        for (int rule = 0; rule < 3; rule++) {
            TwinPanel x = new TwinPanel();
            x.module(GATHER, 0L);
            x.module(DELAY, b(1.0));
            x.module(TRACK, 0L);
            x.cord(0, 0, 0, true);
            x.cord(1, 0, 0, false);
            x.cord(2, 0, 0, false);
            x.cord(2, 1, 0, false);
            x.begin(0, b(0.8));
            x.rule(rule, 1);
            x.mode(1);
            for (int i = 0; i < 5; i++) {
                long ahead = x.reading(0);
                int singleAhead = x.single(0);
                x.run(1);
                Due.due("delay, rule " + rule, x.reading(1), ahead);
                Due.due("track, rule " + rule, x.reading(2), ahead);
                Due.due("delay in floats, rule " + rule, x.single(1), singleAhead);
                Due.due("track in floats, rule " + rule, x.single(2), singleAhead);
            }
        }
    }

    public static void main(String[] args) {
        plainKinds();
        quotientsAndRoots();
        tables();
        tablesAtTheirPoints();
        manyTableReadings();
        manyRoots();
        turnedCords();
        rules();
        lampsInStages();
        lampOfAGather();
        lampOfOneTwin();
        noise();
        delayAndTrack();
        trackAtZero();
        rememberedAheadOfStages();
        Due.end();
    }
}
