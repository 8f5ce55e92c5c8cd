import java.io.IOException;

/** Promises 11 to 20: each sentence, in its words, with what holds it to them. */
public final class SentencesOfRunsTest {
    private static final int NONE = TwinPanel.NONE, UNKNOWN = TwinPanel.UNKNOWN, OUTSIDE = TwinPanel.OUTSIDE,
        STATE = TwinPanel.STATE, FULL = TwinPanel.FULL;

    private static long b(double v) {
        return Due.bits(v);
    }

    /** y' = -y from 1.0 by steps of 1/2: it is halved by each. */
    private static TwinPanel halving() {
        TwinPanel x = new TwinPanel();
        x.module(Panels.GATHER, 0L);
        x.module(Panels.TURN, 0L);
        x.cord(0, 0, 1, false);
        x.cord(1, 0, 0, false);
        x.begin(0, b(1.0));
        x.rule(0, 1);
        return x;
    }

    private static void mode() {
        Sentences.promise(11, "To a MODE (0, 1): the one before.");
        TwinPanel x = halving();
        int[][] modes = {{0, 0}, {1, 0}, {1, 1}, {0, 1}, {1, 0}};
        for (int[] m : modes) {
            Due.due("mode(" + m[0] + ")", x.mode(m[0]), m[1]);
            Due.due("now()", x.now(), m[0]);
        }
        x.run(1);
        Due.due("mode(1) in HOLD", x.mode(1), 2);
        x.run(1);
        Due.due("mode(0) in HOLD", x.mode(0), 2);
        Sentences.promise(11, "OUTSIDE; STATE: to START, and check() would not tell 0.");
        for (int broken = 1; broken <= 3; broken++) {
            int rule = broken;
            Told.leaves("mode(2)", OUTSIDE, () -> Panels.breaking(rule), y -> y.mode(2));
            Told.leaves("mode(-1)", OUTSIDE, () -> Panels.breaking(rule), y -> y.mode(-1));
            Told.leaves("mode(1)", STATE, () -> Panels.breaking(rule), y -> y.mode(1));
            Due.due("mode(0)", Panels.breaking(rule).mode(0), 0);
        }
        Told.leaves("mode(2) in HOLD", OUTSIDE, Panels::held, y -> y.mode(2));
        Sentences.promise(12, "The MODE.");
        Due.due("now()", Panels.patched().now(), 0);
        Due.due("now()", Panels.started().now(), 1);
        Due.due("now()", Panels.held().now(), 2);
    }

    private static void run() {
        Sentences.promise(13, "n STEPS (1 to 100): how many were done (fewer: none but those ahead of one that "
            + "FAILS);");
        TwinPanel x = halving();
        x.mode(1);
        double due = 1.0;
        for (int n = 1; n <= 5; n++) {
            Due.due("run(" + n + ")", x.run(n), n);
            due = due / (1 << n);
            Due.dueNumber("reading(0)", x.reading(0), due);
            Due.dueNumber("reading(1)", x.reading(1), -due);
        }
        Due.due("time()", x.time(), 15);
        Due.due("run(100)", x.run(100), 100);
        Due.due("time()", x.time(), 115);
        Sentences.promise(13, "if a MODULE FAILS: -1000 less the least that FAILS then.");
        TwinPanel y = halving();
        y.fail(1, 4);
        y.fail(0, 6);
        y.mode(1);
        Due.due("run(3)", y.run(3), 3);
        Due.due("run(100)", y.run(100), -1001);
        Due.due("time()", y.time(), 3);
        Due.dueNumber("reading(0)", y.reading(0), 0.125);
        y.fail(1, 6);
        Due.due("run(100)", y.run(100), -1000);
        Due.due("time(): those ahead of it were done", y.time(), 5);
        Due.dueNumber("reading(0)", y.reading(0), 0.03125);
        Due.due("count(5)", y.count(5), 5);
        Sentences.promise(13, "The MODE is HOLD.");
        Due.due("now() behind one that FAILS", y.now(), 2);
        Due.due("now()", x.now(), 2);
        Sentences.promise(13, "OUTSIDE; STATE: PATCH; FULL: TIME would be above 300, or a STRIP would have more than "
            + "120.");
        Told.leaves("run(0)", OUTSIDE, () -> Panels.patchedAt(300), z -> z.run(0));
        Told.leaves("run(101)", OUTSIDE, () -> Panels.at(300), z -> z.run(101));
        Told.leaves("run(1)", STATE, () -> Panels.patchedAt(300), z -> z.run(1));
        Told.leaves("run(1)", FULL, () -> Panels.at(300), z -> z.run(1));
        Told.leaves("run(11)", FULL, () -> Panels.at(290), z -> z.run(11));
        Due.due("run(10) at 290", Panels.at(290).run(10), 10);
        Told.leaves("run(1)", FULL, () -> Panels.withSamples(120), z -> z.run(1));
        Told.leaves("run(11)", FULL, () -> Panels.withSamples(110), z -> z.run(11));
        Due.due("run(10) at 110 samples", Panels.withSamples(110).run(10), 10);
    }

    private static void fail() {
        Sentences.promise(14, "A MODULE is to FAIL at a TIME (1 to 300; 0: never): 1.");
        TwinPanel x = halving();
        x.mode(1);
        for (int time : new int[] {1, 2, 7, 300, 0}) {
            Due.due("fail(1, " + time + ")", x.fail(1, time), 1);
            Due.due("about(1, 14)", x.about(1, 14), time);
        }
        Due.due("run(100), never", x.run(100), 100);
        x.fail(0, 103);
        Due.due("run(2)", x.run(2), 2);
        Due.due("run(1)", x.run(1), -1000);
        Sentences.promise(14, "UNKNOWN; OUTSIDE.");
        Told.leaves("fail(9, 301)", UNKNOWN, Panels::held, y -> y.fail(9, 301));
        Told.leaves("fail(-1, 5)", UNKNOWN, Panels::patched, y -> y.fail(-1, 5));
        Told.leaves("fail(1, 301)", OUTSIDE, Panels::held, y -> y.fail(1, 301));
        Told.leaves("fail(1, -1)", OUTSIDE, Panels::patched, y -> y.fail(1, -1));
    }

    private static void time() {
        Sentences.promise(15, "TIME.");
        TwinPanel x = halving();
        Due.due("time() at first", x.time(), 0);
        x.mode(1);
        Due.due("time() at START", x.time(), 0);
        x.run(3);
        x.run(4);
        Due.due("time() behind 7 STEPS", x.time(), 7);
    }

    private static void readings() {
        Sentences.promise(16, "Its READING;");
        TwinPanel x = Panels.fed(Panels.TURN, 0.0, 0.1);
        x.mode(1);
        Due.dueNumber("reading(0)", x.reading(0), 0.1);
        Due.dueNumber("reading(1)", x.reading(1), -0.1);
        Sentences.promise(16, "0 also: UNKNOWN, PATCH.");
        Told.leaves("reading(9)", 0L, Panels::held, y -> y.reading(9));
        Told.leaves("reading(-1)", 0L, Panels::started, y -> y.reading(-1));
        Told.leaves("reading(1)", 0L, Panels::patched, y -> y.reading(1));
        Sentences.promise(17, "The bits of its SINGLE;");
        Due.due("single(0)", x.single(0), Float.floatToRawIntBits(0.1f));
        Due.due("single(1)", x.single(1), Float.floatToRawIntBits(-0.1f));
        Sentences.promise(17, "0 also: UNKNOWN, PATCH.");
        Told.leaves("single(9)", 0, Panels::held, y -> y.single(9));
        Told.leaves("single(-1)", 0, Panels::started, y -> y.single(-1));
        Told.leaves("single(1)", 0, Panels::patched, y -> y.single(1));
        Sentences.promise(18, "Its LAMP.");
        TwinPanel y = Panels.playing(0.5, 0.5, 0.5, 1.0);
        y.module(Panels.SUM, 0L);
        y.cord(4, 0, 0, false);
        y.cord(4, 1, 0, false);
        Due.due("lamp(4) at first", y.lamp(4), NONE);
        y.mode(1);
        y.run(2);
        Due.due("lamp(4) at 2", y.lamp(4), NONE);
        y.run(1);
        Due.due("lamp(4) at 3", y.lamp(4), 3);
        y.run(5);
        Due.due("lamp(4) at 8", y.lamp(4), 3);
        Sentences.promise(18, "UNKNOWN.");
        Told.leaves("lamp(9)", UNKNOWN, Panels::held, z -> z.lamp(9));
        Told.leaves("lamp(-1)", UNKNOWN, Panels::patched, z -> z.lamp(-1));
    }

    private static double gap(double v) {
        return Math.abs(v - (double) (float) v);
    }

    private static void apart() {
        Sentences.promise(19, "The greatest size of what its READING less its SINGLE was (as a double, at START and "
            + "behind each STEP since).");
        double[] samples = {0.1, 0.5, -0.7, 0.25, 0.3};
        TwinPanel x = Panels.playing(samples);
        x.mode(1);
        double greatest = 0.0;
        for (int i = 0; i < samples.length; i++) {
            greatest = Math.max(greatest, gap(samples[i]));
            Due.dueNumber("apart(0) at " + i, x.apart(0), greatest);
            x.run(1);
        }
        x.mode(1);
        Due.dueNumber("apart(0) at START again", x.apart(0), gap(0.1));
        Sentences.promise(19, "0 also: UNKNOWN, PATCH.");
        Told.leaves("apart(9)", 0L, Panels::held, y -> y.apart(9));
        Told.leaves("apart(-1)", 0L, Panels::started, y -> y.apart(-1));
        Told.leaves("apart(1)", 0L, Panels::patched, y -> y.apart(1));
        Due.dueTrue("apart(1) is not 0 in HOLD", Panels.held().apart(1) != 0L);
    }

    private static void rate() {
        Sentences.promise(20, "What THE SUM of a GATHER was at START (doubles).");
        TwinPanel x = Panels.noises(0.1, 0.7);
        x.module(Panels.GATHER, 0L);
        x.cord(2, 1, 0, true);
        x.cord(2, 3, 1, false);
        x.cord(2, 5, 1, false);
        x.mode(1);
        Due.dueNumber("rate(2)", x.rate(2), -0.1 + 0.7 + 0.7);
        x.run(9);
        Due.dueNumber("rate(2) in HOLD", x.rate(2), -0.1 + 0.7 + 0.7);
        Sentences.promise(20, "0 also: UNKNOWN, no GATHER, PATCH.");
        Told.leaves("rate(9)", 0L, Panels::held, y -> y.rate(9));
        Told.leaves("rate(-1)", 0L, Panels::started, y -> y.rate(-1));
        for (int m = 0; m < Panels.MODULES; m++) {
            int at = m;
            if (m != Panels.GATHER_AT) {
                Told.leaves("rate(" + m + ")", 0L, Panels::held, y -> y.rate(at));
            }
        }
        Told.leaves("rate(1)", 0L, Panels::patched, y -> y.rate(1));
    }

    public static void main(String[] args) throws IOException {
        mode();
        run();
        fail();
        time();
        readings();
        apart();
        rate();
        Sentences.areAllFrom("## Promise 11: mode", "## Promise 21: strip");
        Due.endOf(11, 20);
    }
}
