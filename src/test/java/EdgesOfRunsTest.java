/** The edges of promises 11 to 20: modes, runs to the last step, modules that fail, and what is told of a run. */
public final class EdgesOfRunsTest {
    private static final int NONE = TwinPanel.NONE;

    private static long b(double v) {
        return Due.bits(v);
    }

    private static double number(long bits) {
        return Double.longBitsToDouble(bits);
    }

    private static void modes() {
        Due.promise(11, "To a MODE (0, 1): the one before, from each to each");
        Due.due("PATCH to PATCH", Panels.patched().mode(0), 0);
        Due.due("PATCH to START", Panels.patched().mode(1), 0);
        Due.due("START to PATCH", Panels.started().mode(0), 1);
        Due.due("START to START", Panels.started().mode(1), 1);
        Due.due("HOLD to PATCH", Panels.held().mode(0), 2);
        Due.due("HOLD to START", Panels.held().mode(1), 2);
        Due.promise(11, "to PATCH, whatever check() would tell");
        for (int rule = 1; rule <= 3; rule++) {
            Due.due("mode(0), rule " + rule + " broken", Panels.breaking(rule).mode(0), 0);
        }
        Due.promise(11, "in PATCH all that is not read is as it was");
        TwinPanel x = Panels.held();
        int lamp = x.lamp(8);
        long sample = x.sample(1, 7);
        x.mode(0);
        Due.due("time()", x.time(), 7);
        Due.due("lamp(8)", x.lamp(8), lamp);
        Due.due("samples(1)", x.samples(1), 8);
        Due.due("sample(1, 7)", x.sample(1, 7), sample);
        Due.due("count(5)", x.count(5), 7);
        Due.due("about(3, 14)", x.about(3, 14), 12);
        Due.promise(12, "The MODE: 0, 1, 2, and behind refusals");
        TwinPanel y = Panels.noises(0.5);
        Due.due("now() at first", y.now(), 0);
        y.mode(1);
        Due.due("now() at START", y.now(), 1);
        y.run(0);
        Due.due("now() behind a refused run", y.now(), 1);
        y.run(1);
        Due.due("now() behind a run", y.now(), 2);
        y.mode(1);
        Due.due("now() at START again", y.now(), 1);
        y.mode(0);
        Due.due("now() in PATCH", y.now(), 0);
        y.run(1);
        Due.due("now() behind a run refused in PATCH", y.now(), 0);
    }

    /** From every state the same START: what ran ahead of it leaves nothing behind but steps, swept and broken. */
    private static void startAgain() {
        Due.promise(11, "At START: TIME, STATES, rows, seeds, LAMPS, STRIPS are as at the first START");
        TwinPanel fresh = Panels.started();
        TwinPanel x = Panels.held();
        x.run(4);
        x.mode(1);
        Due.due("digest() at START", x.digest(), fresh.digest());
        for (int m = 0; m < Panels.MODULES; m++) {
            Due.due("apart(" + m + ")", x.apart(m), fresh.apart(m));
            Due.due("rate(" + m + ")", x.rate(m), fresh.rate(m));
            Due.due("lamp(" + m + ")", x.lamp(m), fresh.lamp(m));
        }
        for (int i = 0; i < 5; i++) {
            Due.due("run(1)", x.run(1), fresh.run(1));
            Due.due("digest() behind START", x.digest(), fresh.digest());
        }
        Due.promise(11, "At START: a DELAY's row is all this, of whatever length it was");
        for (int s = 1; s <= 16; s++) {
            for (int ran = 0; ran < 20; ran += 19) {
                startOfAShorterDelay(s, ran + s % 7);
            }
        }
        Due.promise(11, "At START: TIME is 0, STRIPS have what is read then alone");
        x.mode(1);
        Due.due("time()", x.time(), 0);
        Due.due("samples(0)", x.samples(0), 1);
        Due.due("sample(0, 0)", x.sample(0, 0), x.reading(1));
        Due.due("sample(1, 0)", x.sample(1, 0), x.reading(6));
    }

    /** A delay of 16 ran for a while; then it is one of s. */
    private static void startOfAShorterDelay(int s, int ran) {
        TwinPanel x = Panels.fed(Panels.DELAY, 16.0, 0.3);
        x.begin(1, b(-0.9));
        x.mode(1);
        x.run(1 + ran);
        x.mode(0);
        x.setting(1, b(s));
        x.mode(1);
        TwinPanel fresh = Panels.fed(Panels.DELAY, s, 0.3);
        fresh.begin(1, b(-0.9));
        fresh.mode(1);
        for (int i = 0; i < 18; i++) {
            Due.due("digest() of a delay of " + s + " at " + i, x.digest(), fresh.digest());
            x.run(1);
            fresh.run(1);
        }
    }

    private static void runs() {
        Due.promise(13, "n STEPS (1 to 100): how many were done");
        TwinPanel x = Panels.at(0);
        Due.due("run(1)", x.run(1), 1);
        Due.due("time()", x.time(), 1);
        Due.due("run(100)", x.run(100), 100);
        Due.due("time()", x.time(), 101);
        Due.promise(13, "run(n) is n times run(1)");
        TwinPanel y = Panels.at(0);
        for (int i = 0; i < 101; i++) {
            y.run(1);
        }
        Due.due("digest()", y.digest(), x.digest());
        Due.promise(13, "TIME is 300 at most");
        int[][] last = {{200, 100}, {201, 99}, {250, 50}, {298, 2}, {299, 1}};
        for (int[] p : last) {
            TwinPanel z = Panels.at(p[0]);
            Due.due("run(" + (p[1] + 1) + ") at " + p[0], z.run(p[1] + 1), p[1] == 100 ? -102 : -104);
            Due.due("run(" + p[1] + ") at " + p[0], z.run(p[1]), p[1]);
            Due.due("time()", z.time(), 300);
            Due.due("run(1) at 300", z.run(1), TwinPanel.FULL);
            Due.due("mode(1)", z.mode(1), 2);
            Due.due("run(1) from START", z.run(1), 1);
        }
        Due.promise(13, "a STRIP has 120 at most");
        int[][] most = {{20, 100}, {21, 99}, {101, 19}, {118, 2}, {119, 1}};
        for (int[] p : most) {
            TwinPanel z = Panels.withSamples(p[0]);
            Due.due("samples(0)", z.samples(0), p[0]);
            Due.due("run(" + p[1] + ") at " + p[0] + " samples", z.run(p[1]), p[1]);
            Due.due("samples(0)", z.samples(0), 120);
            Due.due("sample(0, 119)", z.sample(0, 119), z.reading(0));
            Due.due("time()", z.time(), 119);
            Due.due("run(1)", z.run(1), TwinPanel.FULL);
        }
        Due.promise(13, "The MODE is HOLD");
        Due.due("now()", x.now(), 2);
        TwinPanel s = Panels.started();
        s.run(1);
        Due.due("now() behind one step from START", s.now(), 2);
    }

    private static void runsThatFail() {
        Due.promise(13, "fewer: none but those ahead of one that FAILS");
        int[] times = {1, 2, 50, 99, 100};
        for (int time : times) {
            TwinPanel x = Panels.at(0);
            x.fail(1, time);
            Due.due("run(100), fails at " + time, x.run(100), -1001);
            Due.due("time()", x.time(), time - 1);
            Due.due("count(5)", x.count(5), time - 1);
            Due.due("now()", x.now(), 2);
            TwinPanel ahead = Panels.at(0);
            if (time > 1) {
                ahead.run(time - 1);
            }
            Due.due("reading(1) is as ahead of that STEP", x.reading(1), ahead.reading(1));
            Due.due("single(1) is as ahead of that STEP", x.single(1), ahead.single(1));
            x.fail(1, 0);
            ahead.run(1);
            Due.due("run(1), told never to fail", x.run(1), 1);
            Due.due("it goes on", x.digest(), ahead.digest());
        }
        Due.promise(13, "a TIME just behind the run's last does not fail it");
        TwinPanel y = Panels.at(0);
        y.fail(0, 101);
        Due.due("run(100)", y.run(100), 100);
        Due.due("run(1)", y.run(1), -1000);
        Due.promise(13, "-1000 less the least that FAILS then, 0 to 19");
        for (int least = 0; least < 20; least++) {
            TwinPanel z = Panels.noises(new double[20]);
            for (int m = 0; m < 20; m++) {
                z.fail(m, m >= least ? 3 : 4 + m);
            }
            z.mode(1);
            Due.due("run(9), the least is " + least, z.run(9), -1000 - least);
            Due.due("time()", z.time(), 2);
        }
        Due.promise(13, "the MODULE that FAILS first, though another is less");
        TwinPanel w = Panels.at(0);
        w.fail(0, 5);
        w.fail(1, 4);
        Due.due("run(10)", w.run(10), -1001);
        Due.promise(13, "a MODULE that FAILS at 300");
        TwinPanel v = Panels.at(299);
        v.fail(1, 300);
        Due.due("run(1)", v.run(1), -1001);
        Due.due("time()", v.time(), 299);
        v.fail(1, 0);
        Due.due("run(1)", v.run(1), 1);
    }

    /** What would come of a step is not there at all: samples, lamps, apart, steps. */
    private static void notDoneAtAll() {
        Due.promise(13, "the STEP that would make that TIME is not done at all");
        TwinPanel x = Panels.held();
        x.fail(2, 8);
        String before = Told.now(x);
        Due.due("run(1)", x.run(1), -1002);
        Due.dueText("all", Told.now(x), before);
        Due.due("run(100)", x.run(100), -1002);
        Due.dueText("all", Told.now(x), before);
        Due.promise(13, "ahead of the first STEP from START too, but for the MODE");
        TwinPanel y = Panels.started();
        y.fail(0, 1);
        long first = y.reading(1);
        Due.due("run(5)", y.run(5), -1000);
        Due.due("now()", y.now(), 2);
        Due.due("time()", y.time(), 0);
        Due.due("samples(0)", y.samples(0), 1);
        Due.due("reading(1)", y.reading(1), first);
    }

    private static void fails() {
        Due.promise(14, "a TIME (1 to 300; 0: never), in each MODE");
        int[] times = {0, 1, 2, 299, 300};
        for (int time : times) {
            TwinPanel[] panels = {Panels.patched(), Panels.started(), Panels.held()};
            for (TwinPanel x : panels) {
                int now = x.now();
                Due.due("fail(8, " + time + ")", x.fail(8, time), 1);
                Due.due("about(8, 14)", x.about(8, 14), time);
                Due.due("about(7, 14), another", x.about(7, 14), 0);
                Due.due("now()", x.now(), now);
            }
        }
        Due.promise(14, "0: never");
        TwinPanel x = Panels.started();
        Due.due("fail(3, 0), which was to fail at 12", x.fail(3, 0), 1);
        Due.due("run(20)", x.run(20), 20);
        Due.promise(14, "a TIME that is gone does not fail till the next START");
        TwinPanel y = Panels.at(9);
        y.fail(0, 9);
        y.fail(1, 1);
        Due.due("run(30)", y.run(30), 30);
        y.mode(1);
        Due.due("run(30) from START", y.run(30), -1001);
        y.fail(1, 0);
        Due.due("run(30)", y.run(30), -1000);
        Due.due("time()", y.time(), 8);
        Due.promise(14, "the latest TIME told");
        y.fail(0, 11);
        Due.due("run(30)", y.run(30), -1000);
        Due.due("time()", y.time(), 10);
        Due.promise(14, "to the last MODULE");
        TwinPanel z = Panels.fullHeld();
        Due.due("fail(19, 6)", z.fail(19, 6), 1);
        Due.due("run(9)", z.run(9), -1019);
        Due.due("time()", z.time(), 5);
    }

    private static void times() {
        Due.promise(15, "TIME: 0 at first and at START, one more behind each STEP");
        TwinPanel x = Panels.noises(0.1);
        Due.due("time() at first", x.time(), 0);
        x.mode(1);
        for (int i = 0; i < 10; i++) {
            Due.due("time()", x.time(), i);
            x.run(1);
        }
        x.run(0);
        x.run(101);
        Due.due("time() behind refused runs", x.time(), 10);
        x.mode(0);
        Due.due("time() in PATCH", x.time(), 10);
        x.mode(1);
        Due.due("time() at START", x.time(), 0);
        Due.promise(15, "TIME is 300 at most");
        Due.due("time()", Panels.at(300).time(), 300);
        Due.due("time() in PATCH", Panels.patchedAt(300).time(), 300);
    }

    private static void readings() {
        Due.promise(16, "Its READING, to the ends of the numbers");
        double[] values = {1.5, -1.5, Double.MIN_VALUE, -Double.MIN_VALUE, Double.MIN_NORMAL, -Math.nextDown(1.5),
            Math.nextDown(Double.MIN_NORMAL), 0.0, 1.0, -1.0, 0x1.0p-1021, 0x1.fffffffffffffp-1, 0x1.0p-33, 0x1.0p-32,
            Math.nextDown(0x1.0p-32), 0x1.0p-64, 0x1.8p-1000};
        TwinPanel x = Panels.noises(values);
        x.mode(1);
        for (int m = 0; m < values.length; m++) {
            Due.promise(16, "Its READING, to the ends of the numbers");
            Due.dueNumber("reading(" + m + ")", x.reading(m), values[m]);
            Due.promise(17, "The bits of its SINGLE, to the ends of the numbers");
            Due.dueSingle("single(" + m + ")", x.single(m), values[m] == -Double.MIN_VALUE ? 0.0f : (float) values[m]);
        }
        Due.promise(17, "The bits of its SINGLE, of small floats");
        double[] small = {Float.MIN_VALUE, -Float.MIN_VALUE, Float.MIN_NORMAL, -Float.MIN_NORMAL, 0x1.8p-148,
            Math.nextDown(Float.MIN_NORMAL), 0x1.0p-125, 0x1.0p-64, -0x1.fffffep-100};
        TwinPanel y = Panels.noises(small);
        y.mode(1);
        for (int m = 0; m < small.length; m++) {
            Due.dueSingle("single(" + m + ")", y.single(m), (float) small[m]);
            Due.dueNumber("reading(" + m + ")", y.reading(m), small[m]);
        }
        Due.promise(16, "Its READING at START and in HOLD, of the first and the last MODULE");
        TwinPanel z = Panels.noises(new double[20]);
        z.begin(0, b(0.1));
        z.begin(19, b(0.2));
        z.mode(1);
        Due.dueNumber("reading(0)", z.reading(0), 0.1);
        Due.dueNumber("reading(19)", z.reading(19), 0.2);
        Due.dueSingle("single(19)", z.single(19), 0.2f);
        z.run(1);
        Due.dueNumber("reading(19) in HOLD", z.reading(19), 1013904223 / 2147483648.0);
        Due.promise(16, "0 also: PATCH, and again at START");
        z.mode(0);
        Due.due("reading(19)", z.reading(19), 0L);
        Due.due("single(19)", z.single(19), 0);
        z.mode(1);
        Due.dueNumber("reading(19)", z.reading(19), 0.2);
    }

    private static void lamps() {
        Due.promise(18, "Its LAMP: NONE at first, in each MODE");
        TwinPanel x = Panels.fed(Panels.SUM, 0.0, 1.0, 0.75);
        Due.due("lamp(2) at first", x.lamp(2), NONE);
        Due.due("lamp(0) at first", x.lamp(0), NONE);
        x.mode(1);
        Due.promise(18, "Its LAMP: 0, that lit at START");
        Due.due("lamp(2)", x.lamp(2), 0);
        Due.due("lamp(0)", x.lamp(0), NONE);
        x.run(5);
        Due.due("lamp(2) stays", x.lamp(2), 0);
        x.mode(0);
        Due.promise(18, "Its LAMP in PATCH, till the next START");
        Due.due("lamp(2)", x.lamp(2), 0);
        x.begin(0, 0L);
        Due.due("lamp(2)", x.lamp(2), 0);
        x.mode(1);
        Due.due("lamp(2) at START", x.lamp(2), NONE);
        Due.promise(18, "Its LAMP: of 20 that lit, all are out at START");
        TwinPanel all = new TwinPanel();
        for (int m = 0; m < 20; m++) {
            all.module(Panels.GATHER, 0L);
            all.cord(m, 0, m, false);
            all.begin(m, b(1.25));
        }
        all.rule(0, 1);
        for (int again = 0; again < 2; again++) {
            all.mode(1);
            for (int m = 0; m < 20; m++) {
                Due.due("lamp(" + m + ") at START", all.lamp(m), NONE);
            }
            all.run(3);
            for (int m = 0; m < 20; m++) {
                Due.due("lamp(" + m + ")", all.lamp(m), 1);
            }
        }
        Due.promise(18, "Its LAMP: 0, that lit at a START behind a run");
        TwinPanel again = Panels.fed(Panels.SUM, 0.0, 1.0, 0.75);
        again.mode(1);
        again.run(9);
        again.mode(1);
        Due.due("lamp(2)", again.lamp(2), 0);
        Due.promise(18, "Its LAMP: 300, that lit with the last STEP");
        TwinPanel y = slowly();
        y.run(100);
        y.run(100);
        y.run(99);
        Due.dueNumber("reading(1) at 299", y.reading(1), 1.5);
        Due.due("lamp(1) at 299", y.lamp(1), NONE);
        y.run(1);
        Due.due("lamp(1) at 300", y.lamp(1), 300);
        Due.due("count(4)", y.count(4), 1);
    }

    /** 1 gathers 1.0 by steps of 1/256, and is at 1.5 at time 299. */
    private static TwinPanel slowly() {
        TwinPanel x = new TwinPanel();
        x.module(Panels.TRACK, 0L);
        x.module(Panels.GATHER, 0L);
        x.cord(0, 0, 0, false);
        x.cord(0, 1, 0, false);
        x.cord(1, 0, 0, false);
        x.begin(0, b(1.0));
        x.begin(1, b(1.5 - 299.0 / 256.0));
        x.rule(0, 8);
        x.mode(1);
        return x;
    }

    private static void aparts() {
        Due.promise(19, "at START: the size of its READING less its SINGLE, on both sides, and none");
        double[] values = {0.1, 0.3, -0.1, -0.3, 0.5, Double.MIN_VALUE, -Double.MIN_VALUE};
        TwinPanel x = Panels.noises(values);
        x.mode(1);
        for (int m = 0; m < values.length; m++) {
            Due.dueNumber("apart of " + values[m], x.apart(m), Math.abs(values[m] - (double) (float) values[m]));
        }
        Due.promise(19, "The greatest, behind each STEP since START");
        TwinPanel y = Panels.playing(0.5, 0.1, 0.7, 0.25, -0.3);
        y.mode(1);
        double greatest = 0.0;
        for (int time = 0; time < 12; time++) {
            double gap = number(y.reading(0)) - (double) Float.intBitsToFloat(y.single(0));
            greatest = Math.max(greatest, Math.abs(gap));
            Due.dueNumber("apart(0) at " + time, y.apart(0), greatest);
            y.run(1);
        }
        Due.promise(19, "a START begins it anew");
        y.mode(1);
        Due.due("apart(0) of 0.5", y.apart(0), 0L);
        Due.promise(19, "two readings that go quite apart");
        TwinPanel z = Panels.fed(Panels.COMPARE, 0.0, Math.nextUp(0.5), 0.5);
        z.mode(1);
        Due.dueNumber("apart of a compare", z.apart(2), 2.0);
        z.run(1);
        Due.dueNumber("apart of it since", z.apart(2), 2.0);
    }

    private static void rates() {
        Due.promise(20, "What THE SUM was at START: of one CORD and of six");
        TwinPanel x = Panels.noises(1.5, 0.1);
        x.module(Panels.GATHER, 0L);
        x.module(Panels.GATHER, 0L);
        for (int i = 0; i < 6; i++) {
            x.cord(2, i, 0, false);
        }
        x.cord(3, 5, 1, true);
        x.mode(1);
        Due.dueNumber("rate(2), which AFTER does not touch", x.rate(2), 9.0);
        Due.due("lamp(2)", x.lamp(2), NONE);
        Due.dueNumber("rate(3)", x.rate(3), -0.1);
        Due.promise(20, "at START, whatever came since");
        x.run(10);
        Due.dueNumber("rate(2)", x.rate(2), 9.0);
        Due.dueNumber("rate(3)", x.rate(3), -0.1);
        Due.promise(20, "at the latest START");
        x.mode(0);
        x.begin(1, b(0.2));
        x.mode(1);
        Due.dueNumber("rate(3)", x.rate(3), -0.2);
        Due.promise(20, "THE SUM of 0.0 TURNED alone is -0.0, with any 0.0 it is 0.0");
        x.mode(0);
        x.begin(1, 0L);
        x.mode(1);
        Due.dueNumber("rate(3)", x.rate(3), -0.0);
        x.mode(0);
        x.cord(3, 0, 1, true);
        x.mode(1);
        Due.dueNumber("rate(3) of two", x.rate(3), -0.0);
        x.mode(0);
        x.cord(3, 3, 1, false);
        x.mode(1);
        Due.dueNumber("rate(3) of three", x.rate(3), 0.0);
        Due.promise(20, "0 also: no GATHER");
        Due.due("rate(0)", x.rate(0), 0L);
        Due.due("rate(1)", x.rate(1), 0L);
        Due.promise(20, "THE SUM of what does not remember, TURNED");
        TwinPanel z = Panels.fed(Panels.SUM, 0.0, 0.3);
        z.module(Panels.GATHER, 0L);
        z.cord(2, 0, 1, true);
        z.mode(1);
        Due.dueNumber("rate(2)", z.rate(2), -0.3);
        z.mode(0);
        z.cord(1, 1, 0, true);
        z.mode(1);
        Due.dueNumber("rate(2) of a sum of 0.0", z.rate(2), -0.0);
        Due.promise(20, "of a GATHER of itself: of what it reads at START");
        TwinPanel y = new TwinPanel();
        y.module(Panels.GATHER, 0L);
        y.cord(0, 0, 0, true);
        y.begin(0, b(1.5));
        y.mode(1);
        Due.dueNumber("rate(0)", y.rate(0), -1.5);
    }

    public static void main(String[] args) {
        modes();
        startAgain();
        runs();
        runsThatFail();
        notDoneAtAll();
        fails();
        times();
        readings();
        lamps();
        aparts();
        rates();
        Due.endOf(11, 20);
    }
}
