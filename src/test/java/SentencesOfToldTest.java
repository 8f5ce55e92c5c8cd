import java.io.IOException;

/** Promises 21 to 31: each sentence, in its words, with what holds it to them. */
public final class SentencesOfToldTest {
    private static final int NONE = TwinPanel.NONE, UNKNOWN = TwinPanel.UNKNOWN, OUTSIDE = TwinPanel.OUTSIDE,
        STATE = TwinPanel.STATE, FULL = TwinPanel.FULL;

    private static long b(double v) {
        return Due.bits(v);
    }

    private static double number(long bits) {
        return Double.longBitsToDouble(bits);
    }

    private static void strip() {
        Sentences.promise(21, "A STRIP of a MODULE: its number (it has no samples till the next START; others keep "
            + "theirs till then).");
        TwinPanel x = Panels.noises(0.1, 0.2);
        Due.due("strip(1)", x.strip(1), 0);
        Due.due("samples(0)", x.samples(0), 0);
        x.mode(1);
        x.run(4);
        x.mode(0);
        Due.due("strip(0)", x.strip(0), 1);
        Due.due("samples(1)", x.samples(1), 0);
        Due.due("samples(0)", x.samples(0), 5);
        Due.dueNumber("sample(0, 0)", x.sample(0, 0), 0.2);
        x.mode(1);
        Due.due("samples(0) at START", x.samples(0), 1);
        Due.dueNumber("sample(0, 0) at START", x.sample(0, 0), 0.2);
        Due.dueNumber("sample(1, 0) at START", x.sample(1, 0), 0.1);
        Sentences.promise(21, "UNKNOWN; STATE: not PATCH; FULL.");
        Told.leaves("strip(20)", UNKNOWN, Panels::fullHeld, y -> y.strip(20));
        Told.leaves("strip(-1)", UNKNOWN, Panels::fullPatched, y -> y.strip(-1));
        Told.leaves("strip(0) in HOLD", STATE, Panels::fullHeld, y -> y.strip(0));
        Told.leaves("strip(0) at START", STATE, Panels::fullStarted, y -> y.strip(0));
        Told.leaves("strip(0), the seventh", FULL, Panels::fullPatched, y -> y.strip(0));
    }

    private static void samples() {
        Sentences.promise(22, "How many samples a STRIP has.");
        TwinPanel x = Panels.noises(0.3);
        x.strip(0);
        Due.due("samples(0) in PATCH", x.samples(0), 0);
        x.mode(1);
        for (int i = 1; i <= 6; i++) {
            Due.due("samples(0)", x.samples(0), i);
            x.run(1);
        }
        Sentences.promise(22, "UNKNOWN.");
        Told.leaves("samples(2)", UNKNOWN, Panels::held, y -> y.samples(2));
        Told.leaves("samples(-1)", UNKNOWN, Panels::patched, y -> y.samples(-1));
        Sentences.promise(23, "Sample i of a STRIP; 0 also: there is none.");
        double[] samples = {0.5, -0.25, 1.5, 0.75};
        TwinPanel y = Panels.playing(samples);
        y.mode(1);
        y.run(3);
        for (int i = 0; i < samples.length; i++) {
            Due.dueNumber("sample(0, " + i + ")", y.sample(0, i), samples[i]);
        }
        Due.due("sample(0, 4)", y.sample(0, 4), 0L);
        Due.due("sample(0, -1)", y.sample(0, -1), 0L);
        Due.due("sample(1, 0)", y.sample(1, 0), 0L);
        Due.due("sample(-1, 0)", y.sample(-1, 0), 0L);
    }

    private static void places() {
        TwinPanel x = Panels.playing(-1.0, 0.25, 0.5, 0.0, 0.0, -0.5, 0.75, 0.75, 1.0, -0.25);
        x.mode(1);
        x.run(9);
        Sentences.promise(24, "The k-th CROSSING (from 0); NONE.");
        int[] crossings = {1, 3, 6, 9, NONE};
        for (int k = 0; k < crossings.length; k++) {
            Due.due("crossing(0, " + k + ")", x.crossing(0, k), crossings[k]);
        }
        Due.due("crossing(0, -1)", x.crossing(0, -1), NONE);
        Sentences.promise(24, "UNKNOWN.");
        Told.leaves("crossing(2, 0)", UNKNOWN, Panels::held, y -> y.crossing(2, 0));
        Told.leaves("crossing(-1, 0)", UNKNOWN, Panels::patched, y -> y.crossing(-1, 0));
        Sentences.promise(25, "The k-th PEAK; NONE.");
        int[] peaks = {2, 6, 8, NONE};
        for (int k = 0; k < peaks.length; k++) {
            Due.due("peak(0, " + k + ")", x.peak(0, k), peaks[k]);
        }
        Due.due("peak(0, -1)", x.peak(0, -1), NONE);
        Sentences.promise(25, "UNKNOWN.");
        Told.leaves("peak(2, 0)", UNKNOWN, Panels::held, y -> y.peak(2, 0));
        Told.leaves("peak(-1, 0)", UNKNOWN, Panels::patched, y -> y.peak(-1, 0));
    }

    /** 1' = -s 1 from 1.0, by steps of 1/4 of RULE 1; 0 has the setting s. */
    private static TwinPanel decaying(double s) {
        TwinPanel x = new TwinPanel();
        x.module(Panels.PART, b(s));
        x.module(Panels.GATHER, 0L);
        x.cord(0, 0, 1, false);
        x.cord(1, 0, 0, true);
        x.begin(1, b(1.0));
        x.rule(1, 2);
        x.mode(1);
        return x;
    }

    private static void sweep() {
        Sentences.promise(26, "For j = 0, 1, .. below count (1 to 6): the panel from START with the SETTING of m from "
            + "+ j times by (in doubles), n STEPS (1 to 40), as if none were to FAIL: the READING of q then is kept as "
            + "SWEPT j: count.");
        TwinPanel x = decaying(0.5);
        x.fail(1, 3);
        x.run(2);
        for (int count = 1; count <= 6; count++) {
            for (int n : new int[] {1, 7, 40}) {
                Due.due("sweep", x.sweep(0, b(-0.3), b(0.1), count, n, 1), count);
                for (int j = 0; j < count; j++) {
                    TwinPanel alone = decaying(-0.3 + j * 0.1);
                    alone.run(n);
                    Due.due("swept(" + j + ") of " + n + " steps", x.swept(j), alone.reading(1));
                }
            }
        }
        Due.due("run(1) fails all the same", x.run(1), -1001);
        Sentences.promise(26, "UNKNOWN: m, q; OUTSIDE: count, n, a SETTING is not as it may be; STATE: PATCH.");
        Told.leaves("sweep of m 9", UNKNOWN, Panels::patched, y -> y.sweep(9, b(0.5), 0L, 7, 41, 1));
        Told.leaves("sweep of q 9", UNKNOWN, Panels::patched, y -> y.sweep(3, b(0.5), 0L, 7, 41, 9));
        Told.leaves("sweep of q -1", UNKNOWN, Panels::held, y -> y.sweep(3, b(0.5), 0L, 1, 1, -1));
        Told.leaves("sweep of count 0", OUTSIDE, Panels::patched, y -> y.sweep(3, b(0.5), 0L, 0, 1, 1));
        Told.leaves("sweep of count 7", OUTSIDE, Panels::held, y -> y.sweep(3, b(0.5), 0L, 7, 1, 1));
        Told.leaves("sweep of n 0", OUTSIDE, Panels::held, y -> y.sweep(3, b(0.5), 0L, 1, 0, 1));
        Told.leaves("sweep of n 41", OUTSIDE, Panels::held, y -> y.sweep(3, b(0.5), 0L, 1, 41, 1));
        Told.leaves("sweep from 1.25", OUTSIDE, Panels::held, y -> y.sweep(3, b(1.25), b(-0.5), 2, 1, 1));
        Told.leaves("sweep to 1.25", OUTSIDE, Panels::patched, y -> y.sweep(3, b(0.75), b(0.25), 3, 1, 1));
        Told.leaves("sweep to 1.0", STATE, Panels::patched, y -> y.sweep(3, b(0.75), b(0.25), 2, 1, 1));
        Sentences.promise(27, "SWEPT j of the latest sweep() that was no refusal; 0 also: there is none.");
        Due.due("swept(0) ahead of any", decaying(0.5).swept(0), 0L);
        long third = x.swept(2);
        Due.due("a refused sweep", x.sweep(0, b(-0.3), b(0.1), 7, 40, 1), OUTSIDE);
        Due.due("swept(2)", x.swept(2), third);
        Due.due("sweep from the second", x.sweep(0, b(-0.3 + 2 * 0.1), 0L, 1, 40, 1), 1);
        Due.due("swept(0)", x.swept(0), third);
        Due.due("swept(1)", x.swept(1), 0L);
        Due.due("swept(-1)", x.swept(-1), 0L);
    }

    private static void halved() {
        Sentences.promise(28, "The greatest size of the difference of the READINGS of q behind j STEPS and behind 2 j "
            + "STEPS of half the length, for j = 1 to n (1 to 20), both from START, as if none were to FAIL.");
        TwinPanel x = decaying(0.7);
        x.fail(0, 2);
        x.run(1);
        double greatest = 0.0;
        for (int j = 1; j <= 20; j++) {
            TwinPanel whole = decaying(0.7);
            TwinPanel half = decaying(0.7);
            half.mode(0);
            half.rule(1, 3);
            half.mode(1);
            whole.run(j);
            half.run(2 * j);
            greatest = Math.max(greatest, Math.abs(number(whole.reading(1)) - number(half.reading(1))));
            Due.dueNumber("halved(1, " + j + ")", x.halved(1, j), greatest);
        }
        Due.dueTrue("they differ", greatest > 0.0);
        Sentences.promise(28, "0 also: UNKNOWN, OUTSIDE, PATCH.");
        Told.leaves("halved(9, 5)", 0L, Panels::held, y -> y.halved(9, 5));
        Told.leaves("halved(-1, 5)", 0L, Panels::started, y -> y.halved(-1, 5));
        Told.leaves("halved(1, 0)", 0L, Panels::held, y -> y.halved(1, 0));
        Told.leaves("halved(1, 21)", 0L, Panels::held, y -> y.halved(1, 21));
        Told.leaves("halved(1, 5)", 0L, Panels::patched, y -> y.halved(1, 5));
    }

    private static void about() {
        Sentences.promise(29, "Of a MODULE: what = 0 KIND, 1 + i the MODULE of the CORD of INPUT i (NONE), 7 + i "
            + "whether that is TURNED (1, 0), 13 how many points, 14 at which TIME it is to FAIL.");
        TwinPanel x = Panels.noises(0.1, 0.2);
        x.module(Panels.TABLE, 0L);
        x.cord(2, 0, 1, true);
        x.cord(2, 2, 0, false);
        x.cord(2, 5, 2, true);
        x.point(2, 0L, 0L);
        x.point(2, b(0.5), 0L);
        x.point(2, b(1.0), 0L);
        x.fail(2, 77);
        int[] due = {7, 1, NONE, 0, NONE, NONE, 2, 1, 0, 0, 0, 0, 1, 3, 77};
        for (int what = 0; what < due.length; what++) {
            Due.due("about(2, " + what + ")", x.about(2, what), due[what]);
        }
        Sentences.promise(29, "UNKNOWN; OUTSIDE.");
        Told.leaves("about(9, 15)", UNKNOWN, Panels::held, y -> y.about(9, 15));
        Told.leaves("about(-1, 0)", UNKNOWN, Panels::patched, y -> y.about(-1, 0));
        Told.leaves("about(0, 15)", OUTSIDE, Panels::held, y -> y.about(0, 15));
        Told.leaves("about(0, -1)", OUTSIDE, Panels::patched, y -> y.about(0, -1));
    }

    private static void count() {
        Sentences.promise(30, "How many: 0 MODULES, 1 STRIPS, 2 CORDS, 3 the greatest LEVEL (0 without MODULES; of "
            + "those that have one), 4 LAMPS that are lit, 5 STEPS done ever by run(), 6 RULE, 7 k.");
        TwinPanel x = Panels.fed(Panels.SUM, 0.0, 1.0, 1.0);
        x.module(Panels.ROOT, 0L);
        x.cord(3, 0, 2, true);
        x.strip(3);
        x.rule(2, 9);
        x.mode(1);
        x.run(3);
        x.mode(1);
        x.run(5);
        x.mode(0);
        int[] due = {4, 1, 3, 2, 2, 8, 2, 9};
        for (int what = 0; what < due.length; what++) {
            Due.due("count(" + what + ")", x.count(what), due[what]);
        }
        Due.due("count(3) without MODULES", new TwinPanel().count(3), 0);
        x.cord(2, 0, 3, false);
        Due.due("count(3), none of a circle has one", x.count(3), 0);
        Sentences.promise(30, "OUTSIDE.");
        Told.leaves("count(8)", OUTSIDE, Panels::held, y -> y.count(8));
        Told.leaves("count(-1)", OUTSIDE, Panels::patched, y -> y.count(-1));
    }

    private static long h(long... numbers) {
        long h = 47L;
        for (long number : numbers) {
            h = 31L * h + number;
        }
        return h;
    }

    private static void digest() {
        Sentences.promise(31, "h is 47, then for each of these numbers, in order, 31 times h, and it (as longs, "
            + "wrapping): the MODE, TIME;");
        TwinPanel x = new TwinPanel();
        Due.due("digest() in PATCH", x.digest(), h(0, 0));
        x.mode(1);
        x.run(9);
        Due.due("digest() in HOLD", x.digest(), h(2, 9));
        Sentences.promise(31, "of each MODULE its KIND, SETTING (bits), CORDS (of each INPUT the MODULE or -1, 1 if "
            + "TURNED else 0), START VALUE;");
        TwinPanel y = new TwinPanel();
        y.module(Panels.DELAY, b(2.0));
        y.module(Panels.PART, b(-0.5));
        y.cord(0, 0, 1, true);
        y.cord(1, 0, 0, false);
        y.cord(1, 4, 0, true);
        y.begin(0, b(0.7));
        Due.due("digest() in PATCH", y.digest(), h(0, 0, 11, b(2.0), 1, 1, -1, 0, -1, 0, -1, 0, -1, 0, -1, 0, b(0.7),
            10, b(-0.5), 0, 0, -1, 0, -1, 0, -1, 0, 0, 1, -1, 0, 0));
        Sentences.promise(31, "not in PATCH: READING, the bits of its SINGLE, LAMP;");
        y.mode(1);
        long single = Float.floatToRawIntBits(0.7f);
        long part = Float.floatToRawIntBits(0.7f * -0.5f);
        Due.due("digest() at START", y.digest(), h(1, 0, 11, b(2.0), 1, 1, -1, 0, -1, 0, -1, 0, -1, 0, -1, 0, b(0.7),
            b(0.7), single, -1, 10, b(-0.5), 0, 0, -1, 0, -1, 0, -1, 0, 0, 1, -1, 0, 0, b(0.7 * -0.5), part, -1));
        Sentences.promise(31, "of each STRIP how many samples, these.");
        TwinPanel z = Panels.playing(0.5, 0.25);
        z.mode(0);
        z.strip(1);
        z.mode(1);
        z.run(1);
        z.mode(0);
        long one = b(1.0);
        Due.due("digest() in PATCH", z.digest(), h(0, 1, 11, one, 1, 0, -1, 0, -1, 0, -1, 0, -1, 0, -1, 0, b(0.5),
            11, one, 0, 0, -1, 0, -1, 0, -1, 0, -1, 0, -1, 0, b(0.25), 2, b(0.5), b(0.25), 2, b(0.25), b(0.5)));
    }

    public static void main(String[] args) throws IOException {
        strip();
        samples();
        places();
        sweep();
        halved();
        about();
        count();
        digest();
        Sentences.areAllFrom("## Promise 21: strip", "## Not promised");
        Sentences.passed("How the state is held inside the object is free, as are the speed of each call, the text of "
            + "toString and the behaviour of equals and hashCode. Use of one object from several threads at once is "
            + "not promised to be safe. Nothing is promised beyond the answers and state changes described above, and "
            + "nothing about an object after its 512th call.");
        Sentences.areAllFrom("## Not promised", "its end");
        Due.endOf(21, 31);
    }
}
