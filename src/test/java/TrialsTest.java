/** Promises 26 to 28: sweep, swept, halved; behind them all is as it was. */
public final class TrialsTest {
    private static final int GATHER = 2, PART = 10, DELAY = 11, LIMIT = 12, NOISE = 13;

    private static long b(double v) {
        return Due.bits(v);
    }

    /** 0 gathers what 1, a part, and 2, a delay of it, and 3, a noise through 4, a limit, bring. */
    private static TwinPanel panel(int rule, double part, double delay, double seed) {
        TwinPanel x = new TwinPanel();
        x.module(GATHER, 0L);
        x.module(PART, b(part));
        x.module(DELAY, b(delay));
        x.module(NOISE, b(seed));
        x.module(LIMIT, b(0.75));
        x.cord(0, 0, 1, true);
        x.cord(0, 1, 2, false);
        x.cord(0, 2, 4, false);
        x.cord(1, 0, 0, false);
        x.cord(2, 0, 0, true);
        x.cord(4, 0, 3, false);
        x.begin(0, b(0.9));
        x.begin(2, b(-0.3));
        x.rule(rule, 2);
        return x;
    }

    private static long alone(int rule, double part, double delay, double seed, int n) {
        TwinPanel x = panel(rule, part, delay, seed);
        x.mode(1);
        x.run(n);
        return x.reading(0);
    }

    private static void sweeps() {
        for (int rule = 0; rule < 3; rule++) {
            TwinPanel x = panel(rule, 0.5, 3.0, 9.0);
            x.strip(0);
            x.mode(1);
            x.run(7);
            x.fail(0, 9);
            long before = x.digest();
            Due.due("sweep of a part", x.sweep(1, b(-1.0), b(0.4), 6, 40, 0), 6);
            for (int j = 0; j < 6; j++) {
                Due.due("swept(" + j + ")", x.swept(j), alone(rule, -1.0 + j * 0.4, 3.0, 9.0, 40));
            }
            Due.due("swept(6)", x.swept(6), 0L);
            Due.due("swept(-1)", x.swept(-1), 0L);
            Due.due("sweep of a delay", x.sweep(2, b(16.0), b(-5.0), 4, 21, 0), 4);
            for (int j = 0; j < 4; j++) {
                Due.due("swept(" + j + ")", x.swept(j), alone(rule, 0.5, 16.0 - 5.0 * j, 9.0, 21));
            }
            Due.due("swept(4) is of the latest", x.swept(4), 0L);
            Due.due("sweep of a noise", x.sweep(3, b(1000000.0), b(-1.0), 2, 12, 0), 2);
            for (int j = 0; j < 2; j++) {
                Due.due("swept(" + j + ")", x.swept(j), alone(rule, 0.5, 3.0, 1000000.0 - j, 12));
            }
            Due.due("digest() is as it was", x.digest(), before);
            Due.due("count(5)", x.count(5), 7);
            Due.due("run(2) fails as told", x.run(2), -1000);
            Due.due("time()", x.time(), 8);
            Due.due("it goes on as it went", x.reading(0), alone(rule, 0.5, 3.0, 9.0, 8));
            x.mode(0);
            Due.due("swept(1) in PATCH", x.swept(1), alone(rule, 0.5, 3.0, 999999.0, 12));
        }
    }

    private static void refusedSweeps() {
        TwinPanel x = panel(0, 0.5, 3.0, 9.0);
        Due.due("sweep in PATCH", x.sweep(1, 0L, 0L, 1, 1, 0), TwinPanel.STATE);
        Due.due("sweep in PATCH, outside first", x.sweep(1, b(2.0), 0L, 1, 1, 0), TwinPanel.OUTSIDE);
        Due.due("sweep in PATCH, unknown first", x.sweep(5, b(2.0), 0L, 0, 0, 0), TwinPanel.UNKNOWN);
        x.mode(1);
        Due.due("sweep at START", x.sweep(1, b(0.25), 0L, 2, 3, 0), 2);
        long kept = x.swept(1);
        Due.due("sweep of none", x.sweep(-1, 0L, 0L, 1, 1, 0), TwinPanel.UNKNOWN);
        Due.due("sweep read at none", x.sweep(1, 0L, 0L, 1, 1, 5), TwinPanel.UNKNOWN);
        Due.due("count 0", x.sweep(1, 0L, 0L, 0, 1, 0), TwinPanel.OUTSIDE);
        Due.due("count 7", x.sweep(1, 0L, 0L, 7, 1, 0), TwinPanel.OUTSIDE);
        Due.due("n 0", x.sweep(1, 0L, 0L, 1, 0, 0), TwinPanel.OUTSIDE);
        Due.due("n 41", x.sweep(1, 0L, 0L, 1, 41, 0), TwinPanel.OUTSIDE);
        Due.due("the last setting is too great", x.sweep(1, b(0.5), b(0.2501), 3, 1, 0), TwinPanel.OUTSIDE);
        Due.due("the first setting is too small", x.sweep(1, b(-1.25), b(0.5), 3, 1, 0), TwinPanel.OUTSIDE);
        Due.due("a delay of 2.5", x.sweep(2, b(2.0), b(0.5), 2, 1, 0), TwinPanel.OUTSIDE);
        Due.due("a gather has 0.0 alone", x.sweep(0, 0L, b(0.5), 2, 1, 0), TwinPanel.OUTSIDE);
        double[] odd = {Double.NaN, Double.POSITIVE_INFINITY, Double.NEGATIVE_INFINITY};
        for (double v : odd) {
            Due.due("from " + v, x.sweep(1, b(v), 0L, 1, 1, 0), TwinPanel.OUTSIDE);
            Due.due("by " + v, x.sweep(1, 0L, b(v), 1, 1, 0), TwinPanel.OUTSIDE);
            Due.due("from and by " + v, x.sweep(1, b(v), b(-v), 2, 1, 0), TwinPanel.OUTSIDE);
        }
        Due.due("by too great a number", x.sweep(1, 0L, b(Double.MAX_VALUE), 6, 1, 0), TwinPanel.OUTSIDE);
        Due.due("by it, but once", x.sweep(2, b(1.0), b(Double.MAX_VALUE), 2, 1, 0), TwinPanel.OUTSIDE);
        Due.due("swept(1) is as it was", x.swept(1), kept);
        Due.due("by it, not used", x.sweep(1, b(0.25), b(Double.MAX_VALUE), 1, 3, 0), 1);
        Due.due("swept(0)", x.swept(0), kept);
        Due.due("swept(1) is gone", x.swept(1), 0L);
        Due.due("now()", x.now(), 1);
    }

    private static double gap(int rule, int k, int q, int n) {
        double most = 0.0;
        for (int j = 1; j <= n; j++) {
            TwinPanel whole = panel(rule, 0.5, 3.0, 9.0);
            TwinPanel half = panel(rule, 0.5, 3.0, 9.0);
            whole.rule(rule, k);
            half.rule(rule, k + 1);
            whole.mode(1);
            half.mode(1);
            whole.run(j);
            half.run(2 * j);
            double a = Double.longBitsToDouble(whole.reading(q));
            most = Math.max(most, Math.abs(a - Double.longBitsToDouble(half.reading(q))));
        }
        return most;
    }

    private static void halvedSteps() {
        for (int rule = 0; rule < 3; rule++) {
            TwinPanel x = panel(rule, 0.5, 3.0, 9.0);
            x.strip(0);
            Due.due("halved in PATCH", x.halved(0, 5), 0L);
            x.mode(1);
            Due.dueNumber("halved(0, 1)", x.halved(0, 1), gap(rule, 2, 0, 1));
            x.run(4);
            x.fail(0, 5);
            long before = x.digest();
            Due.dueNumber("halved(0, 20)", x.halved(0, 20), gap(rule, 2, 0, 20));
            Due.dueNumber("halved(2, 7)", x.halved(2, 7), gap(rule, 2, 2, 7));
            Due.due("halved(0, 0)", x.halved(0, 0), 0L);
            Due.due("halved(0, 21)", x.halved(0, 21), 0L);
            Due.due("halved(-1, 3)", x.halved(-1, 3), 0L);
            Due.due("halved(5, 3)", x.halved(5, 3), 0L);
            Due.due("digest() is as it was", x.digest(), before);
            Due.due("count(5)", x.count(5), 4);
            Due.due("run(1) fails as told", x.run(1), -1000);
        }
    }

    /** Half the shortest step is shorter than any that rule() takes. */
    private static void halfOfTheShortest() {
        TwinPanel x = new TwinPanel();
        x.module(GATHER, 0L);
        x.cord(0, 0, 0, true);
        x.begin(0, b(1.0));
        x.rule(0, 20);
        x.mode(1);
        double t = 1.0 / (1 << 20);
        double half = 1.0 + (t / 2) * -1.0;
        half = half + (t / 2) * -half;
        Due.dueNumber("halved(0, 1)", x.halved(0, 1), Math.abs((1.0 + t * -1.0) - half));
    }

    /** Trials light no lamp and are no samples. */
    private static void trialsLeaveLamps() {
        TwinPanel x = new TwinPanel();
        x.module(GATHER, 0L);
        x.cord(0, 0, 0, false);
        x.begin(0, b(1.0));
        x.rule(0, 1);
        x.strip(0);
        x.mode(1);
        x.sweep(0, 0L, 0L, 1, 40, 0);
        x.halved(0, 20);
        Due.dueNumber("swept(0)", x.swept(0), 1.5);
        Due.due("lamp(0)", x.lamp(0), -1);
        Due.due("samples(0)", x.samples(0), 1);
        Due.dueNumber("reading(0)", x.reading(0), 1.0);
        x.run(2);
        Due.due("lamp(0) by run()", x.lamp(0), 2);
        x.halved(0, 20);
        Due.due("lamp(0) behind trials", x.lamp(0), 2);
    }

    public static void main(String[] args) {
        sweeps();
        refusedSweeps();
        halvedSteps();
        halfOfTheShortest();
        trialsLeaveLamps();
        Due.end();
    }
}
