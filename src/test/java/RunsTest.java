/** Promises 11 to 20: mode, now, run, fail, time, reading, single, lamp, apart, rate. */
public final class RunsTest {
    private static final int SUM = 0, GATHER = 2, NOISE = 13;

    private static long b(double v) {
        return Due.bits(v);
    }

    /** 0 is a noise, 1 gathers it, 2 is the sum of both. */
    private static TwinPanel small() {
        TwinPanel x = new TwinPanel();
        x.module(NOISE, b(11.0));
        x.module(GATHER, 0L);
        x.module(SUM, 0L);
        x.cord(1, 0, 0, false);
        x.cord(2, 0, 0, false);
        x.cord(2, 1, 1, false);
        x.begin(0, b(0.3));
        return x;
    }

    private static void modes() {
        TwinPanel x = small();
        Due.due("now()", x.now(), 0);
        Due.due("mode(2)", x.mode(2), TwinPanel.OUTSIDE);
        Due.due("mode(-1)", x.mode(-1), TwinPanel.OUTSIDE);
        Due.due("mode(0) in PATCH", x.mode(0), 0);
        Due.due("mode(1)", x.mode(1), 0);
        Due.due("now() in START", x.now(), 1);
        Due.due("mode(1) in START", x.mode(1), 1);
        Due.due("run(3)", x.run(3), 3);
        Due.due("now() behind a run", x.now(), 2);
        Due.due("time()", x.time(), 3);
        long third = x.reading(1);
        Due.due("mode(0) in HOLD", x.mode(0), 2);
        Due.due("now() in PATCH", x.now(), 0);
        Due.due("time() is as it was", x.time(), 3);
        x.module(SUM, 0L);
        long before = x.digest();
        Due.due("mode(1) of a module without cords", x.mode(1), TwinPanel.STATE);
        Due.due("mode(2) first", x.mode(2), TwinPanel.OUTSIDE);
        Due.due("now() behind a refusal", x.now(), 0);
        Due.due("digest() behind a refusal", x.digest(), before);
        x.cord(3, 0, 0, false);
        Due.due("mode(1) with a cord", x.mode(1), 0);
        Due.due("time() at START", x.time(), 0);
        x.run(2);
        Due.due("mode(1) in HOLD", x.mode(1), 2);
        Due.due("time() at START again", x.time(), 0);
        Due.due("a gather is at its start again", x.reading(1), 0L);
        Due.due("run(3) again", x.run(3), 3);
        Due.due("it goes as it went", x.reading(1), third);
    }

    private static void runs() {
        TwinPanel x = small();
        Due.due("run in PATCH", x.run(1), TwinPanel.STATE);
        Due.due("run(0), outside first", x.run(0), TwinPanel.OUTSIDE);
        Due.due("run(101), outside first", x.run(101), TwinPanel.OUTSIDE);
        x.mode(1);
        Due.due("run(0)", x.run(0), TwinPanel.OUTSIDE);
        Due.due("run(101)", x.run(101), TwinPanel.OUTSIDE);
        Due.due("now() behind refusals", x.now(), 1);
        for (int i = 1; i <= 3; i++) {
            Due.due("run(100)", x.run(100), 100);
            Due.due("time()", x.time(), 100 * i);
        }
        Due.due("run(1) beyond time 300", x.run(1), TwinPanel.FULL);
        Due.due("run(101) there", x.run(101), TwinPanel.OUTSIDE);
        Due.due("count(5)", x.count(5), 300);
        x.mode(1);
        x.run(100);
        x.run(100);
        x.run(51);
        Due.due("run(50) from 251", x.run(50), TwinPanel.FULL);
        Due.due("time()", x.time(), 251);
        Due.due("run(49) from 251", x.run(49), 49);
        Due.due("count(5) goes on", x.count(5), 600);
    }

    private static void runsAgainstStrips() {
        TwinPanel x = small();
        x.strip(2);
        x.mode(1);
        Due.due("run(100)", x.run(100), 100);
        Due.due("samples(0)", x.samples(0), 101);
        Due.due("run(20) of 19", x.run(20), TwinPanel.FULL);
        Due.due("samples(0) behind a refusal", x.samples(0), 101);
        Due.due("run(19)", x.run(19), 19);
        Due.due("samples(0) at the most", x.samples(0), 120);
        Due.due("run(1)", x.run(1), TwinPanel.FULL);
        Due.due("time()", x.time(), 119);
    }

    private static void fails() {
        TwinPanel x = small();
        x.strip(1);
        Due.due("fail of none", x.fail(3, 0), TwinPanel.UNKNOWN);
        Due.due("fail of none, unknown first", x.fail(-1, 301), TwinPanel.UNKNOWN);
        Due.due("fail at -1", x.fail(0, -1), TwinPanel.OUTSIDE);
        Due.due("fail at 301", x.fail(0, 301), TwinPanel.OUTSIDE);
        Due.due("fail at 300", x.fail(0, 300), 1);
        Due.due("about(0, 14)", x.about(0, 14), 300);
        Due.due("fail(2, 6)", x.fail(2, 6), 1);
        Due.due("fail(1, 6)", x.fail(1, 6), 1);
        x.mode(1);
        Due.due("run(5), ahead of it", x.run(5), 5);
        long before = x.digest();
        Due.due("run(1), the least of two", x.run(1), -1001);
        Due.due("digest() is as it was", x.digest(), before);
        Due.due("run(50)", x.run(50), -1001);
        Due.due("fail(1, 0) in HOLD", x.fail(1, 0), 1);
        Due.due("run(1), the other one", x.run(1), -1002);
        Due.due("fail(2, 8)", x.fail(2, 8), 1);
        Due.due("run(10), two of them done", x.run(10), -1002);
        Due.due("time()", x.time(), 7);
        Due.due("samples(0)", x.samples(0), 8);
        Due.due("count(5)", x.count(5), 7);
        Due.due("now()", x.now(), 2);
        x.mode(1);
        Due.due("about(2, 14) at START", x.about(2, 14), 8);
        x.fail(0, 1);
        long atStart = x.reading(0);
        Due.due("run(1) that fails at once", x.run(1), -1000);
        Due.due("now() is HOLD", x.now(), 2);
        Due.due("time() is 0", x.time(), 0);
        Due.due("reading(0) is that of START", x.reading(0), atStart);
        Due.due("count(5) is as it was", x.count(5), 7);
        Due.due("run(101), outside first", x.run(101), TwinPanel.OUTSIDE);
    }

    /** A step that fails lights no lamp, though it would. */
    private static void failsWithoutLamp() {
        TwinPanel x = new TwinPanel();
        x.module(GATHER, 0L);
        x.cord(0, 0, 0, false);
        x.begin(0, b(1.25));
        x.rule(2, 1);
        x.fail(0, 1);
        x.mode(1);
        Due.due("run(1)", x.run(1), -1000);
        Due.due("lamp(0)", x.lamp(0), -1);
        x.fail(0, 0);
        Due.due("run(1)", x.run(1), 1);
        Due.due("lamp(0) then", x.lamp(0), 1);
    }

    private static void tellers() {
        TwinPanel x = small();
        int[] ms = {-1, 3, 0, 1, 2};
        for (int m : ms) {
            boolean isKnown = m >= 0 && m < 3;
            Due.due("reading in PATCH", x.reading(m), 0L);
            Due.due("single in PATCH", x.single(m), 0);
            Due.due("apart in PATCH", x.apart(m), 0L);
            Due.due("rate in PATCH", x.rate(m), 0L);
            Due.due("lamp in PATCH", x.lamp(m), isKnown ? -1 : TwinPanel.UNKNOWN);
        }
        x.mode(1);
        for (int m = -1; m <= 3; m += 4) {
            Due.due("reading of none", x.reading(m), 0L);
            Due.due("single of none", x.single(m), 0);
            Due.due("apart of none", x.apart(m), 0L);
            Due.due("rate of none", x.rate(m), 0L);
            Due.due("lamp of none", x.lamp(m), TwinPanel.UNKNOWN);
        }
        Due.dueNumber("reading(0)", x.reading(0), 0.3);
        Due.due("single(0)", x.single(0), Float.floatToRawIntBits(0.3f));
        Due.dueNumber("apart(0)", x.apart(0), Math.abs(0.3 - (double) 0.3f));
        Due.dueNumber("rate(1)", x.rate(1), 0.3);
        Due.due("rate of a sum", x.rate(2), 0L);
        x.run(5);
        Due.dueNumber("rate(1) is that of START", x.rate(1), 0.3);
        x.mode(0);
        Due.due("reading in PATCH again", x.reading(0), 0L);
        Due.due("single in PATCH again", x.single(0), 0);
        Due.due("apart in PATCH again", x.apart(0), 0L);
        Due.due("rate in PATCH again", x.rate(1), 0L);
    }

    /** apart() is the greatest of all times since START, not the latest. */
    private static void apartSinceStart() {
        TwinPanel x = small();
        x.mode(1);
        double[] most = new double[3];
        for (int i = 0; i <= 20; i++) {
            for (int m = 0; m < 3; m++) {
                double gap = Double.longBitsToDouble(x.reading(m)) - (double) Float.intBitsToFloat(x.single(m));
                most[m] = Math.max(most[m], Math.abs(gap));
                Due.dueNumber("apart(" + m + ") at " + i, x.apart(m), most[m]);
            }
            x.run(1);
        }
        x.mode(1);
        Due.dueNumber("apart(0) at START again", x.apart(0), Math.abs(0.3 - (double) 0.3f));
        Due.due("apart(1) at START again", x.apart(1), 0L);
    }

    /** 1 gathers 0 turned, 2 gathers 0 plain and turned: cords of the one are not those of the other. */
    private static void ratesOfTwo() {
        TwinPanel x = new TwinPanel();
        x.module(NOISE, 0L);
        x.module(GATHER, 0L);
        x.module(GATHER, 0L);
        x.module(GATHER, 0L);
        x.cord(1, 5, 0, true);
        x.cord(2, 0, 0, false);
        x.cord(2, 5, 0, true);
        x.cord(3, 0, 0, true);
        x.mode(1);
        Due.dueNumber("rate(1)", x.rate(1), -0.0);
        Due.dueNumber("rate(2)", x.rate(2), 0.0);
        Due.dueNumber("rate(3)", x.rate(3), -0.0);
        Due.due("rate(0)", x.rate(0), 0L);
        x.mode(0);
        x.begin(0, b(0.6));
        x.mode(1);
        Due.dueNumber("rate(1) of 0.6", x.rate(1), -0.6);
        Due.dueNumber("rate(2) of 0.6", x.rate(2), 0.0);
    }

    private static void rates() {
        TwinPanel x = new TwinPanel();
        x.module(NOISE, 0L);
        x.module(GATHER, 0L);
        x.begin(0, b(1.5));
        for (int i = 0; i < 6; i++) {
            x.cord(1, i, 0, true);
        }
        x.mode(1);
        Due.dueNumber("a rate is not cut at 1.5", x.rate(1), -9.0);
        x.mode(0);
        x.begin(0, b(0.0));
        x.mode(1);
        Due.dueNumber("a sum of turned 0.0 alone", x.rate(1), -0.0);
        x.mode(0);
        x.cord(1, 3, 0, false);
        x.mode(1);
        Due.dueNumber("a sum with 0.0 in it", x.rate(1), 0.0);
        x.mode(0);
        x.begin(0, b(0.1));
        x.cord(1, 4, TwinPanel.NONE, false);
        x.cord(1, 5, TwinPanel.NONE, false);
        x.mode(1);
        Due.dueNumber("a sum, one after the other", x.rate(1), -0.1 - 0.1 - 0.1 + 0.1);
    }

    public static void main(String[] args) {
        modes();
        runs();
        runsAgainstStrips();
        fails();
        failsWithoutLamp();
        tellers();
        apartSinceStart();
        rates();
        ratesOfTwo();
        Due.end();
    }
}
