/** The edges that the document's terms name: numbers, AFTER, lamps, kinds, settings, levels. */
public final class EdgesOfTermsTest {
    private static final double TINY = Double.MIN_VALUE, HALF_ULP = 0x1.0p-53, ULP = 0x1.0p-52;

    private static long b(double v) {
        return Due.bits(v);
    }

    private static void nearestFloats() {
        Due.terms("there SETTINGS, START VALUES, points are the nearest floats of these");
        double up = 1.0 + 0x1.0p-23;
        double[] starts = {0.1, -0.7, 1.0 + 0x1.0p-24, Math.nextUp(1.0 + 0x1.0p-24), up + 0x1.0p-24,
            Math.nextDown(up + 0x1.0p-24), 0x1.0p-149, 0x1.0p-150, Math.nextUp(0x1.0p-150), -0x1.8p-149, 0x1.0p-126,
            Math.nextDown(0x1.0p-126), 0x1.fffffep-127, TINY, -TINY, Double.MIN_NORMAL, Math.nextDown(1.5), -1.5};
        float[] due = {0.1f, -0.7f, 1.0f, (float) up, (float) (1.0 + 0x1.0p-22), (float) up, Float.MIN_VALUE, 0.0f,
            Float.MIN_VALUE, -2 * Float.MIN_VALUE, Float.MIN_NORMAL, Float.MIN_NORMAL, Float.MIN_NORMAL, 0.0f, 0.0f,
            0.0f, 1.5f, -1.5f};
        TwinPanel x = Panels.noises(starts);
        x.mode(1);
        for (int m = 0; m < starts.length; m++) {
            Due.dueNumber("reading of start value " + starts[m], x.reading(m), starts[m]);
            Due.dueSingle("single of start value " + starts[m], x.single(m), due[m]);
            Due.due("lamp of start value " + starts[m], x.lamp(m), -1);
        }
        Kinds.kind(Panels.PART, 0.1, 0.1, 0.1f, -1, 1.0);
        Kinds.kind(Panels.PART, TINY, TINY, 0.0f, -1, 1.0);
        Kinds.kind(Panels.LIMIT, Math.nextDown(1.5), Math.nextDown(1.5), 1.5f, -1, 1.5);
        Kinds.kind(Panels.LIMIT, 0.1, -0.1, -0.1f, -1, -1.0);
        TwinPanel t = Panels.fed(Panels.TABLE, 0.0, -1.0);
        t.point(1, b(0.3), b(0.1));
        t.point(1, b(0.4), b(0.2));
        Kinds.reads("a table below its first point", t, 1, 0.1, 0.1f, -1);
    }

    private static void afterEdges() {
        Due.terms("AFTER v: v, but 1.5 or -1.5, with its sign, if its size is above 1.5 (a LAMP lights)");
        Kinds.kind(Panels.SUM, 0.0, 1.5, 1.5f, -1, 1.5);
        Kinds.kind(Panels.SUM, 0.0, -1.5, -1.5f, -1, -1.5);
        Kinds.kind(Panels.SUM, 0.0, Math.nextDown(1.5), 1.5f, -1, 1.5, -ULP);
        Kinds.kind(Panels.SUM, 0.0, -Math.nextDown(1.5), -1.5f, -1, -1.5, ULP);
        Kinds.kind(Panels.SUM, 0.0, 1.5, 1.5f, -1, 1.5, HALF_ULP);
        Kinds.kind(Panels.SUM, 0.0, -1.5, -1.5f, -1, -1.5, -HALF_ULP);
        Due.terms("AFTER v: the first number above 1.5, in doubles alone");
        Kinds.kind(Panels.SUM, 0.0, 1.5, 1.5f, 0, 1.5, ULP);
        Kinds.kind(Panels.SUM, 0.0, -1.5, -1.5f, 0, -1.5, -ULP);
        Due.terms("AFTER v: the first float above 1.5, and far above it");
        Kinds.kind(Panels.SUM, 0.0, 1.5, 1.5f, 0, 1.5, 0x1.0p-23);
        Kinds.kind(Panels.SUM, 0.0, -1.5, -1.5f, 0, -1.5, -0x1.0p-23);
        Kinds.kind(Panels.SUM, 0.0, 1.5, 1.5f, 0, 1.5, 1.5, 1.5, 1.5, 1.5, 1.5);
        Due.terms("AFTER v: 0.0 for -0.0");
        Kinds.kind(Panels.TURN, 0.0, 0.0, 0.0f, -1, 0.0);
        Kinds.kind(Panels.SUM, 0.0, 0.0, 0.0f, -1, -0.0);
        Kinds.kind(Panels.PRODUCT, 0.0, 0.0, 0.0f, -1, -1.0, 0.0);
        Kinds.kind(Panels.PRODUCT, 0.0, 0.0, 0.0f, -1, -TINY, 0.5);
        Kinds.kind(Panels.PART, -1.0, 0.0, 0.0f, -1, 0.0);
        Kinds.kind(Panels.QUOTIENT, 0.0, 0.0, 0.0f, -1, 0.0, -1.0);
        Kinds.reads("a noise that begins with -0.0", Panels.noises(-0.0), 0, 0.0, 0.0f, -1);
    }

    private static void lamps() {
        Due.terms("the LAMP: in either twin");
        Kinds.kind(Panels.QUOTIENT, 0.0, 2.2e-45 / 2.0e-45, 1.5f, 0, 2.2e-45, 2.0e-45);
        Kinds.kind(Panels.QUOTIENT, 0.0, 1.5, 1.0f, 0, 2.0e-45, 1.2e-45);
        Due.terms("the LAMP is the TIME at which it first lit, or NONE");
        TwinPanel x = new TwinPanel();
        x.module(Panels.DELAY, b(1.0));
        x.module(Panels.DELAY, b(1.0));
        x.module(Panels.DELAY, b(1.0));
        x.module(Panels.SUM, 0L);
        for (int m = 0; m < 3; m++) {
            x.cord(m, 0, (m + 1) % 3, false);
        }
        x.begin(2, b(1.5));
        x.cord(3, 0, 0, false);
        x.cord(3, 1, 0, false);
        x.mode(1);
        int[] due = {-1, -1, 2, 2, 2, 2, 2};
        for (int time = 0; time < due.length; time++) {
            Due.due("lamp(3) at " + time, x.lamp(3), due[time]);
            Due.due("count(4) at " + time, x.count(4), due[time] < 0 ? 0 : 1);
            x.run(1);
        }
    }

    private static void lampAgainstNumbers() {
        Due.terms("the LAMP of a MODULE: of that which lit, though others of higher numbers are READ ahead of it");
        TwinPanel x = new TwinPanel();
        x.module(Panels.ROOT, 0L);
        x.module(Panels.SUM, 0L);
        x.module(Panels.TURN, 0L);
        x.module(Panels.NOISE, 0L);
        x.cord(0, 0, 1, true);
        x.cord(1, 0, 2, false);
        x.cord(2, 0, 3, true);
        x.begin(3, b(0.5));
        Kinds.reads("a root below 0, read as the last one", x, 0, 0.0, 0.0f, 0);
        for (int m = 1; m < 4; m++) {
            Due.due("lamp(" + m + ")", x.lamp(m), -1);
        }
        x.mode(0);
        x.cord(1, 1, 2, false);
        x.cord(1, 2, 2, false);
        x.cord(1, 3, 2, false);
        x.mode(1);
        Due.due("lamp(1), a sum of 2.0", x.lamp(1), 0);
        Due.due("lamp(2)", x.lamp(2), -1);
        Due.due("lamp(3)", x.lamp(3), -1);
    }

    /** A gather goes up to a noise and back: from y by stages beyond it, behind each step to y again. */
    private static TwinPanel upAndBack(double y, double goal, int rule) {
        TwinPanel x = new TwinPanel();
        x.module(Panels.GATHER, 0L);
        x.module(Panels.NOISE, 0L);
        x.module(Panels.COMPARE, 0L);
        x.module(Panels.ROOT, 0L);
        x.cord(0, 0, 2, false);
        x.cord(2, 0, 1, false);
        x.cord(2, 1, 0, false);
        x.cord(3, 0, 0, y < 0.0);
        x.begin(0, b(y));
        x.begin(1, b(goal));
        x.rule(rule, 1);
        x.mode(1);
        return x;
    }

    private static void lampsOfStages() {
        Due.terms("the LAMP: also in the stages of the STEP that made that TIME");
        for (int rule = 1; rule < 3; rule++) {
            TwinPanel x = upAndBack(-0.25, -0.125, rule);
            Due.due("lamp(3) at START", x.lamp(3), -1);
            x.run(1);
            Due.dueNumber("by rule " + rule, x.reading(0), -0.25);
            Due.due("lamp of a root below 0 in a stage of rule " + rule, x.lamp(3), 1);
            Due.due("lamp of the gather", x.lamp(0), -1);
            TwinPanel y = upAndBack(1.25, 1.3, rule);
            y.run(1);
            Due.dueNumber("by rule " + rule, y.reading(0), 1.25);
            Due.due("lamp of a gather above 1.5 in a stage of rule " + rule, y.lamp(0), 1);
            Due.due("lamp of the root", y.lamp(3), -1);
        }
        Due.terms("the LAMP: rule 0 has no stages");
        TwinPanel z = upAndBack(1.0, 1.3, 0);
        z.run(1);
        Due.dueNumber("by rule 0", z.reading(0), 1.5);
        Due.due("lamp of a gather at 1.5", z.lamp(0), -1);
    }

    /** y' = -0.3 y, in doubles, by the words of the document. */
    private static double step(int rule, double t, double y) {
        double first = -(0.3 * y);
        if (rule == 0) {
            return y + t * first;
        }
        if (rule == 1) {
            double second = -(0.3 * (y + t * first));
            return y + t / 2.0 * (first + second);
        }
        double second = -(0.3 * (y + t / 2.0 * first));
        double third = -(0.3 * (y + t / 2.0 * second));
        double fourth = -(0.3 * (y + t * third));
        return y + t * ((((first + 2.0 * second) + 2.0 * third) + fourth) / 6.0);
    }

    /** y' = -0.3 y, in floats. */
    private static float stepOfFloats(int rule, float t, float y) {
        float first = -(0.3f * y);
        if (rule == 0) {
            return y + t * first;
        }
        if (rule == 1) {
            float second = -(0.3f * (y + t * first));
            return y + t / 2.0f * (first + second);
        }
        float second = -(0.3f * (y + t / 2.0f * first));
        float third = -(0.3f * (y + t / 2.0f * second));
        float fourth = -(0.3f * (y + t * third));
        return y + t * ((((first + 2.0f * second) + 2.0f * third) + fourth) / 6.0f);
    }

    /** Ten gathers and their ten parts, as many modules as there may be, by each rule at the ends of k. */
    private static void rules() {
        for (int rule = 0; rule < 3; rule++) {
            for (int k : new int[] {1, 2, 5, 19, 20}) {
                Due.terms("RULE " + rule + ", k " + k);
                TwinPanel x = new TwinPanel();
                double[] y = new double[10];
                float[] f = new float[10];
                for (int i = 0; i < 10; i++) {
                    x.module(Panels.GATHER, 0L);
                    x.module(Panels.PART, b(0.3));
                    x.cord(2 * i, i % 6, 2 * i + 1, true);
                    x.cord(2 * i + 1, 0, 2 * i, false);
                    y[i] = 1.5 - i / 3.3;
                    f[i] = (float) y[i];
                    x.begin(2 * i, b(y[i]));
                }
                x.rule(rule, k);
                Due.due("mode(1)", x.mode(1), 0);
                for (int time = 1; time <= 4; time++) {
                    Due.due("run(1)", x.run(1), 1);
                    for (int i = 0; i < 10; i++) {
                        y[i] = step(rule, 1.0 / (1 << k), y[i]);
                        f[i] = stepOfFloats(rule, 1.0f / (1 << k), f[i]);
                        Due.dueNumber("gather " + i + " at " + time, x.reading(2 * i), y[i]);
                        Due.dueSingle("gather " + i + " in floats at " + time, x.single(2 * i), f[i]);
                    }
                }
            }
        }
    }

    /** Floats so small that a product by t is rounded too, which the sum behind it does not mend. */
    private static void rulesOfSmallNumbers() {
        Due.terms("each act is done in the twin's own numbers, and rounded once: t times RATE of the least floats");
        for (int rule = 0; rule < 3; rule++) {
            TwinPanel least = new TwinPanel();
            least.module(Panels.GATHER, 0L);
            least.cord(0, 0, 0, false);
            least.begin(0, b(Float.MIN_VALUE));
            least.rule(rule, 1);
            least.mode(1);
            least.run(1);
            float y = Float.MIN_VALUE;
            float[] due = {y + 0.5f * y, y + 0.25f * (y + y), y + 0.5f * ((((y + 2.0f * y) + 2.0f * y) + y) / 6.0f)};
            Due.dueSingle("the least float by rule " + rule, least.single(0), due[rule]);
        }
        java.util.Random random = new java.util.Random(9);
        for (int round = 0; round < 600; round++) {
            int rule = round % 3;
            int k = 1 + random.nextInt(20);
            TwinPanel x = new TwinPanel();
            float[] f = new float[10];
            for (int i = 0; i < 10; i++) {
                x.module(Panels.GATHER, 0L);
                x.module(Panels.PART, b(0.3));
                x.cord(2 * i, 0, 2 * i + 1, true);
                x.cord(2 * i + 1, 0, 2 * i, false);
                f[i] = Math.scalb(random.nextFloat() - 0.5f, -118 - random.nextInt(30));
                x.begin(2 * i, b(f[i]));
            }
            x.rule(rule, k);
            x.mode(1);
            x.run(1);
            for (int i = 0; i < 10; i++) {
                float due = stepOfFloats(rule, 1.0f / (1 << k), f[i]);
                due = due == 0.0f ? 0.0f : due;
                Due.dueSingle("from " + f[i] + " by rule " + rule + ", k " + k, x.single(2 * i), due);
            }
        }
    }

    private static void sums() {
        Due.terms("THE SUM is IN of the least INPUT that has a CORD, and those of others to it, by numbers");
        Kinds.kind(Panels.SUM, 0.0, 1.0, 1.0f, -1, 1.0, HALF_ULP, HALF_ULP);
        Kinds.kind(Panels.SUM, 0.0, 1.0 + ULP, 1.0f, -1, HALF_ULP, HALF_ULP, 1.0);
        Kinds.kind(Panels.SUM, 0.0, 0.1 + 0.2 + 0.3 - 0.6 + 0.7 - 0.5, 0.1f + 0.2f + 0.3f - 0.6f + 0.7f - 0.5f, -1,
            0.1, 0.2, 0.3, -0.6, 0.7, -0.5);
        Due.terms("SUM: one INPUT at least, whichever it is");
        for (int input = 0; input < 6; input++) {
            TwinPanel x = Panels.noises(0.3);
            x.module(Panels.SUM, 0L);
            x.cord(1, input, 0, input % 2 == 1);
            boolean isTurned = input % 2 == 1;
            Kinds.reads("a sum of input " + input, x, 1, isTurned ? -0.3 : 0.3, isTurned ? -0.3f : 0.3f, -1);
        }
    }

    private static void quotientsAndRoots() {
        Due.terms("QUOTIENT: if that is 0: 0.0, if IN 0 is 0");
        Kinds.kind(Panels.QUOTIENT, 0.0, 0.0, 0.0f, -1, 0.0, 0.0);
        Kinds.kind(Panels.QUOTIENT, 0.0, 0.0, 0.0f, -1, -0.0, 0.0);
        Due.terms("QUOTIENT: if that is 0: else 1.5 with the sign of IN 0, and the LAMP lights");
        Kinds.kind(Panels.QUOTIENT, 0.0, 1.5, 0.0f, 0, TINY, 0.0);
        Kinds.kind(Panels.QUOTIENT, 0.0, -1.5, 0.0f, 0, -TINY, 0.0);
        Kinds.kind(Panels.QUOTIENT, 0.0, 1.5, 1.5f, 0, 0.1, 0.0);
        Kinds.kind(Panels.QUOTIENT, 0.0, -1.5, -1.5f, 0, -1.5, 0.0);
        TwinPanel x = Panels.fed(Panels.QUOTIENT, 0.0, 0.5, 0.0);
        x.cord(2, 1, 1, true);
        Kinds.reads("0.5 by a turned 0.0", x, 2, 1.5, 1.5f, 0);
        Due.terms("QUOTIENT: IN 0 by IN 1, at 1.5 and the first above it");
        Kinds.kind(Panels.QUOTIENT, 0.0, 1.5, 1.5f, -1, 0.75, 0.5);
        Kinds.kind(Panels.QUOTIENT, 0.0, -1.5, -1.5f, -1, 0.75, -0.5);
        Kinds.kind(Panels.QUOTIENT, 0.0, 1.5, 1.5f, 0, Math.nextUp(0.75), 0.5);
        Kinds.kind(Panels.QUOTIENT, 0.0, 1.5, 1.5f, 0, 1.5, TINY * 3);
        Kinds.kind(Panels.QUOTIENT, 0.0, -1.5, -1.5f, 0, 1.5, -Float.MIN_VALUE);
        Due.terms("ROOT: below 0: 0.0, and the LAMP lights");
        Kinds.kind(Panels.ROOT, 0.0, 0.0, 0.0f, 0, -TINY);
        Kinds.kind(Panels.ROOT, 0.0, 0.0, 0.0f, 0, -1.5);
        Due.terms("ROOT: the square root of IN 0, from 0.0 to 1.5");
        Kinds.kind(Panels.ROOT, 0.0, 0.0, 0.0f, -1, 0.0);
        Kinds.kind(Panels.ROOT, 0.0, 0.0, 0.0f, -1, -0.0);
        Kinds.kind(Panels.ROOT, 0.0, Math.sqrt(TINY), 0.0f, -1, TINY);
        Kinds.kind(Panels.ROOT, 0.0, Math.sqrt(1.5), (float) Math.sqrt(1.5), -1, 1.5);
        Kinds.kind(Panels.ROOT, 0.0, 1.0, 1.0f, -1, 1.0);
        Due.terms("ROOT: rounded once");
        for (int i = 1; i <= 600; i++) {
            double in = i / 400.3;
            Kinds.kind(Panels.ROOT, 0.0, Math.sqrt(in), (float) Math.sqrt((float) in), -1, in);
            double square = Math.nextDown(Math.sqrt(in) * Math.sqrt(in));
            Kinds.kind(Panels.ROOT, 0.0, Math.sqrt(square), (float) Math.sqrt((float) square), -1, square);
        }
        TwinPanel y = Panels.fed(Panels.ROOT, 0.0, 0.0);
        y.cord(1, 0, 0, true);
        Kinds.reads("the root of a turned 0.0", y, 1, 0.0, 0.0f, -1);
    }

    private static TwinPanel table(double in, double[] xs, double[] ys) {
        TwinPanel x = Panels.fed(Panels.TABLE, 0.0, in);
        for (int i = 0; i < xs.length; i++) {
            Due.due("point " + i, x.point(1, b(xs[i]), b(ys[i])), i + 1);
        }
        return x;
    }

    private static double between(double in, double x, double y, double nextX, double nextY) {
        return (in - x) * (nextY - y) / (nextX - x) + y;
    }

    private static void tables() {
        double[] xs = {-1.5, -1.0, -0.625, -0.125, 0.25, 0.5, 1.0, 1.5};
        double[] ys = {1.5, -1.0, 0.5, 0.25, -0.75, 1.25, -1.5, 1.0};
        Due.terms("TABLE: at each x of 8 points its y");
        for (int i = 0; i < 8; i++) {
            Kinds.reads("a table at " + xs[i], table(xs[i], xs, ys), 1, ys[i], (float) ys[i], -1);
        }
        Due.terms("TABLE: else of the last point whose x is not above IN 0, and the next one");
        for (int i = 0; i < 7; i++) {
            double mid = (xs[i] + xs[i + 1]) / 2.0;
            double due = (mid - xs[i]) * (ys[i + 1] - ys[i]) / (xs[i + 1] - xs[i]) + ys[i];
            Kinds.reads("a table at " + mid, table(mid, xs, ys), 1, due, (float) due, -1);
        }
        Due.terms("TABLE: y of the first, if IN 0 is its x or below; y of the last, if IN 0 is its x or above");
        double[] two = {-0.5, 0.5};
        double[] ends = {0.25, -1.0};
        double[] ins = {-1.5, Math.nextDown(-0.5), -0.5, 0.5, Math.nextUp(0.5), 1.5};
        for (int i = 0; i < ins.length; i++) {
            double due = i < 3 ? 0.25 : -1.0;
            Kinds.reads("a table of two at " + ins[i], table(ins[i], two, ends), 1, due, (float) due, -1);
        }
        double within = Math.nextUp(-0.5);
        Kinds.reads("a table of two just above its first", table(within, two, ends), 1,
            (within - -0.5) * -1.25 / 1.0 + 0.25, 0.25f, -1);
        within = Math.nextDown(0.5);
        Kinds.reads("a table of two just below its last", table(within, two, ends), 1,
            (within - -0.5) * -1.25 / 1.0 + 0.25, -1.0f, -1);
        Due.terms("TABLE: points that are next to each other as floats, from one end to the other");
        double[] near = {0.5, Math.nextUp(0.5f)};
        double middle = (near[0] + near[1]) / 2.0;
        Kinds.reads("a table of near points", table(middle, near, new double[] {-1.5, 1.5}), 1, 0.0, -1.5f, -1);
        Due.terms("TABLE: at an x its y alone, where what is between would be rounded to another number");
        double[] odd = {-1.4, -1.3, -1.2};
        double[] oddYs = {-1.3, 0.1, 0.3};
        Due.dueTrue("it would in the middle", between(-1.3, -1.4, -1.3, -1.3, 0.1) != 0.1);
        Due.dueTrue("it would at the last", between(-1.2, -1.3, 0.1, -1.2, 0.3) != 0.3);
        for (int i = 0; i < 3; i++) {
            Kinds.reads("a table at " + odd[i], table(odd[i], odd, oddYs), 1, oddYs[i], (float) oddYs[i], -1);
        }
        Due.terms("TABLE: every y may be of the greatest size");
        double[] wide = {-1.5, 1.5};
        Kinds.reads("a table at -0.75", table(-0.75, wide, new double[] {-1.5, 1.5}), 1, -0.75, -0.75f, -1);
        Kinds.reads("a table at 0.75", table(0.75, wide, new double[] {1.5, -1.5}), 1, -0.75, -0.75f, -1);
    }

    /** As many tables as there may be, each with as many points as it may have. */
    private static void fullTables() {
        Due.terms("TABLE: 8 points of each of 19 tables");
        TwinPanel x = Panels.noises(0.3);
        for (int m = 1; m < 20; m++) {
            x.module(Panels.TABLE, 0L);
            x.cord(m, 0, 0, false);
            for (int i = 0; i < 8; i++) {
                Due.due("point", x.point(m, b(i / 8.0 - 0.4), b((i % 2 == 0 ? m : -m) / 19.0)), i + 1);
            }
        }
        Due.due("mode(1)", x.mode(1), 0);
        float before = (float) (5 / 8.0 - 0.4);
        float next = (float) (6 / 8.0 - 0.4);
        for (int m = 1; m < 20; m++) {
            double y = m / 19.0;
            Due.due("about(" + m + ", 13)", x.about(m, 13), 8);
            Due.dueNumber("reading(" + m + ")", x.reading(m), between(0.3, 5 / 8.0 - 0.4, -y, 6 / 8.0 - 0.4, y));
            float fy = (float) y;
            Due.dueSingle("single(" + m + ")", x.single(m), (0.3f - before) * (fy - -fy) / (next - before) + -fy);
        }
    }

    private static void comparesAndRelays() {
        Due.terms("COMPARE: 1.0, if IN 0 is above IN 1, else -1.0");
        Kinds.kind(Panels.COMPARE, 0.0, 1.0, -1.0f, -1, TINY, 0.0);
        Kinds.kind(Panels.COMPARE, 0.0, -1.0, -1.0f, -1, 0.0, TINY);
        Kinds.kind(Panels.COMPARE, 0.0, -1.0, -1.0f, -1, 0.0, 0.0);
        Kinds.kind(Panels.COMPARE, 0.0, -1.0, -1.0f, -1, 0.0, -0.0);
        Kinds.kind(Panels.COMPARE, 0.0, -1.0, -1.0f, -1, 1.5, 1.5);
        Kinds.kind(Panels.COMPARE, 0.0, 1.0, 1.0f, -1, 1.5, -1.5);
        Kinds.kind(Panels.COMPARE, 0.0, 1.0, -1.0f, -1, 1.5, Math.nextDown(1.5));
        Due.terms("RELAY: IN 0, if IN 2 is above 0, else IN 1");
        Kinds.kind(Panels.RELAY, 0.0, 0.3, 0.7f, -1, 0.3, 0.7, TINY);
        Kinds.kind(Panels.RELAY, 0.0, 0.3, 0.3f, -1, 0.3, 0.7, Float.MIN_VALUE);
        Kinds.kind(Panels.RELAY, 0.0, 0.7, 0.7f, -1, 0.3, 0.7, 0.0);
        Kinds.kind(Panels.RELAY, 0.0, 0.7, 0.7f, -1, 0.3, 0.7, -0.0);
        Kinds.kind(Panels.RELAY, 0.0, 0.7, 0.7f, -1, 0.3, 0.7, -TINY);
        Due.terms("LIMIT: IN 0, but s, if it is above s, less s, if it is below that");
        Kinds.kind(Panels.LIMIT, 0.5, 0.5, 0.5f, -1, 0.5);
        Kinds.kind(Panels.LIMIT, 0.5, -0.5, -0.5f, -1, -0.5);
        Kinds.kind(Panels.LIMIT, 0.5, 0.5, 0.5f, -1, Math.nextUp(0.5));
        Kinds.kind(Panels.LIMIT, 0.5, -0.5, -0.5f, -1, -Math.nextUp(0.5));
        Kinds.kind(Panels.LIMIT, 0.5, Math.nextDown(0.5), 0.5f, -1, Math.nextDown(0.5));
        Kinds.kind(Panels.LIMIT, 0.5, -Math.nextDown(0.5), -0.5f, -1, -Math.nextDown(0.5));
        Kinds.kind(Panels.LIMIT, 0.0, 0.0, 0.0f, -1, 1.5);
        Kinds.kind(Panels.LIMIT, 0.0, 0.0, 0.0f, -1, -1.5);
        Kinds.kind(Panels.LIMIT, 1.5, 1.5, 1.5f, -1, 1.5);
        Kinds.kind(Panels.LIMIT, 1.5, -1.5, -1.5f, -1, -1.5);
        Due.terms("PART: IN 0 times s, from -1.0 to 1.0");
        Kinds.kind(Panels.PART, 1.0, 1.5, 1.5f, -1, 1.5);
        Kinds.kind(Panels.PART, -1.0, -1.5, -1.5f, -1, 1.5);
        Kinds.kind(Panels.PART, 0.0, 0.0, 0.0f, -1, 1.5);
        Due.terms("PRODUCT: IN 0 times IN 1");
        Kinds.kind(Panels.PRODUCT, 0.0, 1.5, 1.5f, -1, 1.5, 1.0);
        Kinds.kind(Panels.PRODUCT, 0.0, 1.5, 1.5f, 0, 1.5, 1.5);
        Kinds.kind(Panels.PRODUCT, 0.0, -1.5, -1.5f, 0, -1.5, 1.5);
    }

    private static void delays() {
        Due.terms("DELAY: the oldest of its row of s numbers, 1 to 16");
        for (int s = 1; s <= 16; s++) {
            TwinPanel x = new TwinPanel();
            x.module(Panels.NOISE, b(31.0));
            x.module(Panels.DELAY, b(s));
            x.cord(1, 0, 0, false);
            x.begin(0, b(0.1));
            x.begin(1, b(-0.2));
            x.mode(1);
            long[] noise = new long[40];
            int[] single = new int[40];
            for (int time = 0; time < 40; time++) {
                noise[time] = x.reading(0);
                single[time] = x.single(0);
                Due.due("delay of " + s + " at " + time, x.reading(1), time < s ? b(-0.2) : noise[time - s]);
                Due.due("delay of " + s + " in floats at " + time, x.single(1),
                    time < s ? Float.floatToRawIntBits(-0.2f) : single[time - s]);
                x.run(1);
            }
        }
    }

    private static void noises() {
        Due.terms("NOISE: an int that wraps; the seed by 2147483648, in floats the nearest one");
        int[] settings = {0, 1, 2, 999999, 1000000};
        for (int s : settings) {
            TwinPanel x = new TwinPanel();
            x.module(Panels.NOISE, b(s));
            x.begin(0, b(1.25));
            x.mode(1);
            Due.dueNumber("noise " + s + " at START", x.reading(0), 1.25);
            long seed = s;
            for (int time = 1; time <= 60; time++) {
                x.run(1);
                seed = (1664525L * seed + 1013904223L) & 0xffffffffL;
                double due = (seed >= 0x80000000L ? seed - 0x100000000L : seed) / 2147483648.0;
                Due.dueNumber("noise " + s + " at " + time, x.reading(0), due);
                Due.dueSingle("noise " + s + " in floats at " + time, x.single(0), (float) due);
            }
            Due.due("lamp of noise " + s, x.lamp(0), -1);
        }
        Due.terms("NOISE: a seed that wraps in its first STEP, worked by hand");
        TwinPanel y = new TwinPanel();
        y.module(Panels.NOISE, b(1000000.0));
        y.mode(1);
        y.run(1);
        Due.dueNumber("noise 1000000", y.reading(0), -908406625 / 2147483648.0);
        y.run(1);
        Due.dueNumber("noise 1000000 then", y.reading(0), 187819378 / 2147483648.0);
    }

    private static void tracks() {
        Due.terms("TRACK: its new STATE is IN 0, if IN 1 is above 0, else as it was");
        double[] gates = {TINY, 0x1.0p-149, 0.0, -0.0, -TINY, 1.5, -1.5};
        for (double gate : gates) {
            TwinPanel x = Panels.fed(Panels.TRACK, 0.0, 0.3, gate);
            x.begin(2, b(-1.1));
            Kinds.reads("a track at START", x, 2, -1.1, -1.1f, -1);
            x.run(1);
            Due.dueNumber("track by " + gate, x.reading(2), gate > 0.0 ? 0.3 : -1.1);
            Due.dueSingle("track in floats by " + gate, x.single(2), (float) gate > 0.0f ? 0.3f : -1.1f);
        }
    }

    /** As many as there may be of each kind that takes what was read: 0 to 18 take from the next one, 19 from 0. */
    private static void ringsOfTwenty() {
        Due.terms("TRACK, DELAY: 20 of them");
        for (int kind : new int[] {Panels.TRACK, Panels.DELAY}) {
            TwinPanel x = new TwinPanel();
            for (int m = 0; m < 20; m++) {
                x.module(kind, kind == Panels.DELAY ? b(1.0) : 0L);
                x.begin(m, b(0.01 + m / 16.0));
            }
            for (int m = 0; m < 20; m++) {
                x.cord(m, 0, (m + 1) % 20, false);
                x.cord(m, 1, m, false);
            }
            Due.due("mode(1)", x.mode(1), 0);
            for (int time = 0; time < 22; time++) {
                for (int m = 0; m < 20; m++) {
                    Due.dueNumber("kind " + kind + ", " + m + " at " + time, x.reading(m),
                        0.01 + (m + time) % 20 / 16.0);
                }
                x.run(1);
            }
        }
    }

    private static void readInLevels() {
        Due.terms("READ: level by level, so that a chain against its numbers is read at once");
        TwinPanel x = new TwinPanel();
        for (int m = 0; m < 19; m++) {
            x.module(m % 2 == 0 ? Panels.TURN : Panels.SUM, 0L);
        }
        x.module(Panels.NOISE, b(3.0));
        for (int m = 0; m < 19; m++) {
            x.cord(m, 0, m + 1, false);
        }
        x.begin(19, b(0.3));
        x.mode(1);
        for (int time = 0; time < 4; time++) {
            double noise = Double.longBitsToDouble(x.reading(19));
            double sign = 1.0;
            for (int m = 18; m >= 0; m--) {
                sign = m % 2 == 0 ? -sign : sign;
                Due.dueNumber("reading(" + m + ") at " + time, x.reading(m), sign * noise);
                Due.dueSingle("single(" + m + ") at " + time, x.single(m), (float) (sign * noise));
            }
            x.run(1);
        }
    }

    public static void main(String[] args) {
        nearestFloats();
        afterEdges();
        lamps();
        lampAgainstNumbers();
        lampsOfStages();
        rules();
        rulesOfSmallNumbers();
        sums();
        quotientsAndRoots();
        tables();
        fullTables();
        comparesAndRelays();
        delays();
        noises();
        tracks();
        ringsOfTwenty();
        readInLevels();
        Due.end();
    }
}
