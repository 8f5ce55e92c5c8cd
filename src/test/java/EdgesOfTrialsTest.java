/** The edges of promises 26 to 28: sweeps and halved runs to the last number, and all as it was behind them. */
public final class EdgesOfTrialsTest {
    private static long b(double v) {
        return Due.bits(v);
    }

    private static double number(long bits) {
        return Double.longBitsToDouble(bits);
    }

    /** What module q of a panel reads behind n steps, with this setting of m. */
    private static long alone(TwinPanel x, int m, double setting, int n, int q) {
        x.mode(0);
        for (int i = 0; i < x.count(0); i++) {
            x.fail(i, 0);
        }
        x.setting(m, b(setting));
        x.mode(1);
        x.run(n);
        return x.reading(q);
    }

    private static void counts() {
        Due.promise(26, "count (1 to 6): count");
        for (int count = 1; count <= 6; count++) {
            TwinPanel x = Panels.held();
            Due.due("sweep of count " + count, x.sweep(3, b(0.5), b(-0.25), count, 4, 8), count);
            for (int j = 0; j < 6; j++) {
                long due = j < count ? alone(Panels.held(), 3, 0.5 - 0.25 * j, 4, 8) : 0L;
                Due.due("swept(" + j + ")", x.swept(j), due);
            }
        }
        Due.promise(26, "n STEPS (1 to 40)");
        for (int n : new int[] {1, 2, 39, 40}) {
            TwinPanel x = Panels.started();
            Due.due("sweep of n " + n, x.sweep(4, b(3.0), 0L, 1, n, 1), 1);
            Due.due("swept(0)", x.swept(0), alone(Panels.held(), 4, 3.0, n, 1));
        }
    }

    private static void settings() {
        Due.promise(26, "SETTINGS to the last that may be");
        double[][] sweeps = {{3, -1.0, 0.4}, {3, 1.0, -0.4}, {4, 1.0, 3.0}, {4, 16.0, -3.0}, {0, 0.0, 200000.0},
            {0, 1000000.0, -1.0}, {7, 0.0, 0.3}, {7, 1.5, -0.3}, {3, -0.0, -0.0}, {1, 0.0, 0.0}, {6, 0.0, -0.0}};
        for (double[] s : sweeps) {
            int m = (int) s[0];
            int q = m == 0 ? 6 : m;
            TwinPanel x = Panels.held();
            Due.due("sweep of " + m + " from " + s[1] + " by " + s[2], x.sweep(m, b(s[1]), b(s[2]), 6, 9, q), 6);
            for (int j = 0; j < 6; j++) {
                Due.due("swept(" + j + ")", x.swept(j), alone(Panels.held(), m, s[1] + j * s[2], 9, q));
            }
        }
        Due.promise(26, "from + j times by (in doubles), not by again and again");
        TwinPanel x = Panels.fed(Panels.PART, 0.0, 1.0);
        x.module(Panels.TRACK, 0L);
        x.cord(2, 0, 2, false);
        x.cord(2, 1, 2, false);
        x.begin(2, b(1.0));
        x.cord(1, 0, 2, false);
        x.mode(1);
        Due.due("sweep", x.sweep(1, b(-0.7), b(0.15), 6, 1, 1), 6);
        double again = -0.7;
        boolean differs = false;
        for (int j = 0; j < 6; j++) {
            Due.dueNumber("swept(" + j + ")", x.swept(j), -0.7 + j * 0.15);
            differs |= again != -0.7 + j * 0.15;
            again += 0.15;
        }
        Due.dueTrue("the two differ in these numbers", differs);
        Due.promise(26, "count 1: by is not added to from");
        Due.due("sweep", x.sweep(1, b(1.0), b(1.0), 1, 1, 1), 1);
        Due.dueNumber("swept(0)", x.swept(0), 1.0);
        Due.promise(26, "m and q may be one MODULE, or any two");
        Due.due("sweep of 2 read at 0", x.sweep(2, 0L, 0L, 1, 1, 0), 1);
        Due.dueNumber("swept(0)", x.swept(0), 1013904223 / 2147483648.0);
    }

    private static void fails() {
        Due.promise(26, "as if none were to FAIL");
        TwinPanel x = Panels.held();
        for (int m = 0; m < Panels.MODULES; m++) {
            x.fail(m, m + 1);
        }
        Due.due("sweep", x.sweep(3, b(0.75), 0L, 1, 40, 1), 1);
        Due.due("swept(0)", x.swept(0), alone(Panels.held(), 3, 0.75, 40, 1));
        Due.due("run(1) fails all the same", x.run(1), -1007);
        Due.promise(28, "as if none were to FAIL");
        long due = Panels.held().halved(1, 20);
        Due.dueTrue("it is not 0", due != 0L);
        Due.due("halved(1, 20)", x.halved(1, 20), due);
    }

    private static void neverFull() {
        Due.promise(26, "from START: no TIME and no STRIP is too long for it");
        TwinPanel late = Panels.at(300);
        TwinPanel young = Panels.at(1);
        Due.due("sweep at 300", late.sweep(0, b(5.0), b(1.0), 6, 40, 1), 6);
        Due.due("sweep at 1", young.sweep(0, b(5.0), b(1.0), 6, 40, 1), 6);
        for (int j = 0; j < 6; j++) {
            Due.due("swept(" + j + ")", late.swept(j), young.swept(j));
        }
        Due.due("time()", late.time(), 300);
        TwinPanel x = Panels.withSamples(120);
        Due.due("sweep at 120 samples", x.sweep(0, b(5.0), b(1.0), 2, 40, 0), 2);
        Due.due("samples(0)", x.samples(0), 120);
        Due.promise(28, "from START: no TIME and no STRIP is too long for it");
        Due.due("halved at 300", late.halved(1, 20), young.halved(1, 20));
        Due.dueTrue("halved at 120 samples is not 0", x.halved(0, 20) != 0L);
        Due.due("samples(0)", x.samples(0), 120);
    }

    private static void allAsItWas() {
        Due.promise(26, "trials, behind which all is as it was");
        Told.leaves("the same sweep again", 3, Panels::held, x -> x.sweep(3, b(0.25), b(0.25), 3, 5, 8));
        Told.leaves("the same sweep again", 3, Panels::started, x -> x.sweep(3, b(0.25), b(0.25), 3, 5, 8));
        Told.leaves("another sweep, and that", 3, Panels::held, x -> {
            x.sweep(4, b(16.0), b(-3.0), 6, 40, 0);
            x.sweep(0, b(1000000.0), 0L, 6, 40, 0);
            x.sweep(7, 0L, b(0.3), 6, 40, 0);
            return x.sweep(3, b(0.25), b(0.25), 3, 5, 8);
        });
        Due.promise(28, "trials, behind which all is as it was");
        for (int n = 1; n <= 20; n++) {
            int steps = n;
            long held = Panels.held().halved(1, n);
            Told.leaves("halved(1, " + n + ")", held, Panels::held, x -> x.halved(1, steps));
            Told.leaves("halved(1, " + n + ")", held, Panels::started, x -> x.halved(1, steps));
        }
        Due.promise(27, "what tells changes nothing");
        long swept = Panels.held().swept(2);
        Told.leaves("swept(2)", swept, Panels::held, x -> x.swept(2));
    }

    private static void swepts() {
        Due.promise(27, "0 also: there is none, ahead of any sweep()");
        TwinPanel x = Panels.noises(0.5, 0.25);
        x.mode(1);
        x.run(3);
        for (int j = -1; j <= 6; j++) {
            Due.due("swept(" + j + ")", x.swept(j), 0L);
        }
        Due.promise(27, "SWEPT j of the latest sweep() that was no refusal");
        x.sweep(0, b(5.0), b(1.0), 6, 7, 0);
        long[] six = new long[6];
        for (int j = 0; j < 6; j++) {
            six[j] = x.swept(j);
            Due.dueTrue("swept(" + j + ") is not 0", six[j] != 0L);
        }
        x.sweep(0, b(5.5), b(1.0), 2, 7, 0);
        x.sweep(0, b(5.0), b(1.0), 7, 7, 0);
        x.sweep(2, b(5.0), b(1.0), 2, 7, 0);
        x.mode(0);
        x.sweep(0, b(9.0), b(1.0), 2, 7, 0);
        for (int j = 0; j < 6; j++) {
            Due.due("swept(" + j + ") in PATCH, behind refusals", x.swept(j), six[j]);
        }
        x.mode(1);
        Due.due("swept(5) at START", x.swept(5), six[5]);
        x.sweep(0, b(6.0), b(1.0), 2, 7, 0);
        Due.due("swept(0) of a shorter one", x.swept(0), six[1]);
        Due.due("swept(1) of a shorter one", x.swept(1), six[2]);
        for (int j = 2; j < 7; j++) {
            Due.due("swept(" + j + ") of a shorter one", x.swept(j), 0L);
        }
        Due.due("swept(-1)", x.swept(-1), 0L);
    }

    /** Noise j against noise 2 j: their sizes apart, by what a run tells. */
    private static double noiseGap(int n) {
        TwinPanel x = Panels.at(0);
        double[] noise = new double[41];
        for (int i = 0; i <= 40; i++) {
            noise[i] = number(x.reading(0));
            x.run(1);
        }
        double greatest = 0.0;
        for (int j = 1; j <= n; j++) {
            greatest = Math.max(greatest, Math.abs(noise[j] - noise[2 * j]));
        }
        return greatest;
    }

    private static void halves() {
        Due.promise(28, "for j = 1 to n (1 to 20): j STEPS and 2 j STEPS");
        for (int n = 1; n <= 20; n++) {
            Due.dueNumber("halved(0, " + n + ") of a noise", Panels.at(5).halved(0, n), noiseGap(n));
        }
        Due.promise(28, "of half the length, by each RULE, at k 1 and k 20");
        for (int rule = 0; rule < 3; rule++) {
            for (int k : new int[] {1, 2, 19}) {
                double due = 0.0;
                for (int j = 1; j <= 20; j++) {
                    due = Math.max(due, Math.abs(decayed(rule, k, j) - decayed(rule, k + 1, 2 * j)));
                }
                Due.dueNumber("halved(0, 20), rule " + rule + ", k " + k, decaying(rule, k).halved(0, 20), due);
            }
        }
        double t = 0x1.0p-20;
        double half = 1.0 + (t / 2.0) * -1.0;
        half = half + (t / 2.0) * -half;
        Due.dueNumber("halved(0, 1), k 20", decaying(0, 20).halved(0, 1), Math.abs(1.0 - t - half));
        Due.promise(28, "the greatest of them, not the last");
        TwinPanel x = decaying(0, 1);
        double[] gaps = new double[21];
        for (int n = 1; n <= 20; n++) {
            gaps[n] = number(x.halved(0, n));
            Due.dueTrue("halved(0, " + n + ") is not below the one ahead", gaps[n] >= gaps[n - 1]);
        }
        double last = Math.abs(decayed(0, 1, 20) - decayed(0, 2, 40));
        Due.dueTrue("it is above the last one", gaps[20] > last);
        Due.promise(28, "the READINGS of q, of what does not remember too");
        TwinPanel turned = decaying(0, 1);
        turned.mode(0);
        turned.module(Panels.TURN, 0L);
        turned.cord(1, 0, 0, false);
        turned.mode(1);
        for (int n = 1; n <= 20; n++) {
            Due.dueNumber("halved(1, " + n + ")", turned.halved(1, n), gaps[n]);
        }
        Due.promise(28, "0.0, where there is no difference");
        TwinPanel still = decaying(0, 4);
        still.mode(0);
        still.begin(0, 0L);
        still.mode(1);
        Due.due("halved(0, 20)", still.halved(0, 20), 0L);
    }

    /** y' = -y from 1.0. */
    private static TwinPanel decaying(int rule, int k) {
        TwinPanel x = new TwinPanel();
        x.module(Panels.GATHER, 0L);
        x.cord(0, 0, 0, true);
        x.begin(0, b(1.0));
        x.rule(rule, k);
        x.mode(1);
        return x;
    }

    private static double decayed(int rule, int k, int steps) {
        TwinPanel x = decaying(rule, k);
        x.run(steps);
        return number(x.reading(0));
    }

    public static void main(String[] args) {
        counts();
        settings();
        fails();
        neverFull();
        allAsItWas();
        swepts();
        halves();
        Due.endOf(26, 28);
    }
}
