/** The edges of promises 21 to 25: strips to the sixth, samples to the 120th, crossings and peaks at the ends. */
public final class EdgesOfStripsTest {
    private static final int NONE = TwinPanel.NONE;
    private static final double TINY = Double.MIN_VALUE;

    private static void strips() {
        Due.promise(21, "its number: 0 to 5, of 6 at most");
        TwinPanel x = Panels.noises(new double[20]);
        for (int s = 0; s < 6; s++) {
            Due.due("count(1)", x.count(1), s);
            Due.due("samples(" + s + ") ahead of it", x.samples(s), TwinPanel.UNKNOWN);
            Due.due("strip " + s, x.strip(s == 0 ? 19 : 0), s);
            Due.due("samples(" + s + ")", x.samples(s), 0);
        }
        Due.due("strip 6", x.strip(0), TwinPanel.FULL);
        Due.due("count(1)", x.count(1), 6);
        Due.promise(21, "it has no samples till the next START; others keep theirs till then");
        TwinPanel y = Panels.patched();
        long kept = y.sample(1, 7);
        Due.due("strip", y.strip(8), 2);
        Due.due("samples of it", y.samples(2), 0);
        Due.due("sample of it", y.sample(2, 0), 0L);
        Due.due("samples(0)", y.samples(0), 8);
        Due.due("samples(1)", y.samples(1), 8);
        Due.due("sample(1, 7)", y.sample(1, 7), kept);
        y.mode(1);
        for (int s = 0; s < 3; s++) {
            Due.due("samples(" + s + ") at START", y.samples(s), 1);
        }
        Due.due("sample(2, 0) at START", y.sample(2, 0), y.reading(8));
        Due.promise(21, "each STRIP is of its own MODULE");
        y.run(3);
        int[] modules = {1, 6, 8};
        for (int s = 0; s < 3; s++) {
            Due.due("sample(" + s + ", 3)", y.sample(s, 3), y.reading(modules[s]));
        }
    }

    private static void samples() {
        Due.promise(22, "How many samples: 0, 1, 2 and 120");
        TwinPanel x = Panels.noises(0.3);
        x.strip(0);
        Due.due("samples(0) in PATCH", x.samples(0), 0);
        x.mode(1);
        Due.due("samples(0) at START", x.samples(0), 1);
        x.run(1);
        Due.due("samples(0) behind a STEP", x.samples(0), 2);
        x.run(100);
        x.run(18);
        Due.due("samples(0) at the most", x.samples(0), 120);
        x.mode(0);
        Due.due("samples(0) in PATCH again", x.samples(0), 120);
        Due.promise(23, "Sample i: the first, the last and none beyond, on both sides");
        Due.dueNumber("sample(0, 0)", x.sample(0, 0), 0.3);
        Due.due("sample(0, -1)", x.sample(0, -1), 0L);
        Due.due("sample(0, 120)", x.sample(0, 120), 0L);
        int seed = 0;
        for (int i = 1; i < 120; i++) {
            seed = 1664525 * seed + 1013904223;
            Due.dueNumber("sample(0, " + i + ")", x.sample(0, i), seed / 2147483648.0);
        }
        Due.promise(23, "0 also: of a sample that a START took away");
        x.mode(1);
        Due.due("sample(0, 1)", x.sample(0, 1), 0L);
        Due.due("sample(0, 119)", x.sample(0, 119), 0L);
        Due.dueNumber("sample(0, 0)", x.sample(0, 0), 0.3);
        Due.promise(23, "the last sample of one STRIP, the first of the next one");
        TwinPanel y = Panels.noises(0.3, 0.4);
        y.strip(0);
        y.strip(1);
        y.mode(1);
        y.run(100);
        y.run(19);
        Due.dueNumber("sample(1, 0)", y.sample(1, 0), 0.4);
        Due.due("sample(0, 120)", y.sample(0, 120), 0L);
        Due.due("sample(0, 119)", y.sample(0, 119), y.reading(0));
        Due.due("sample(1, 119)", y.sample(1, 119), y.reading(1));
    }

    /** The strip of a ring of delays has these samples, once; its crossings or peaks are at these places. */
    private static void places(boolean ofPeaks, double[] samples, int... due) {
        TwinPanel x = Panels.playing(samples);
        x.mode(1);
        if (samples.length > 1) {
            x.run(samples.length - 1);
        }
        Due.due("samples(0)", x.samples(0), samples.length);
        for (int i = 0; i < samples.length; i++) {
            Due.dueNumber("sample(0, " + i + ")", x.sample(0, i), samples[i]);
        }
        String what = (ofPeaks ? "peak of " : "crossing of ") + java.util.Arrays.toString(samples);
        for (int k = 0; k <= due.length; k++) {
            long got = ofPeaks ? x.peak(0, k) : x.crossing(0, k);
            Due.due(what + ", " + k, got, k < due.length ? due[k] : NONE);
        }
        int[] none = {-1, Integer.MIN_VALUE, Integer.MAX_VALUE};
        for (int k : none) {
            Due.due(what + ", " + k, ofPeaks ? x.peak(0, k) : x.crossing(0, k), NONE);
        }
    }

    private static void crossings() {
        Due.promise(24, "NONE: of no samples, and of one");
        TwinPanel x = Panels.playing(0.5, -0.5);
        Due.due("crossing(0, 0) in PATCH", x.crossing(0, 0), NONE);
        places(false, new double[] {0.5});
        places(false, new double[] {-0.5});
        Due.promise(24, "above 0, while the one ahead of it is not");
        places(false, new double[] {-0.5, 0.5}, 1);
        places(false, new double[] {0.0, 0.5}, 1);
        places(false, new double[] {0.0, TINY}, 1);
        places(false, new double[] {-TINY, TINY}, 1);
        Due.promise(24, "or the other way round");
        places(false, new double[] {0.5, -0.5}, 1);
        places(false, new double[] {0.5, 0.0}, 1);
        places(false, new double[] {TINY, 0.0}, 1);
        places(false, new double[] {TINY, -TINY}, 1);
        Due.promise(24, "no CROSSING: 0.0 is not above 0");
        places(false, new double[] {0.0, 0.0});
        places(false, new double[] {-0.5, 0.0});
        places(false, new double[] {0.0, -TINY});
        places(false, new double[] {0.5, 1.5});
        places(false, new double[] {-1.5, -TINY});
        Due.promise(24, "The k-th CROSSING (from 0), to the last place");
        places(false, new double[] {0.5, -0.5, 0.5, 0.0, 0.0, TINY, 1.5, -1.5, -1.0, 0.25}, 1, 2, 3, 5, 7, 9);
        places(false, new double[] {0.0, 0.0, 0.0, 1.0}, 3);
        Due.promise(24, "a CROSSING at the 120th sample");
        TwinPanel y = Panels.playing(1.0, 0.0);
        y.mode(1);
        y.run(100);
        y.run(19);
        for (int k = 0; k < 119; k += 59) {
            Due.due("crossing(0, " + k + ")", y.crossing(0, k), k + 1);
        }
        Due.due("crossing(0, 119)", y.crossing(0, 119), NONE);
        Due.promise(24, "in PATCH too, till the next START");
        y.mode(0);
        Due.due("crossing(0, 118)", y.crossing(0, 118), 119);
        y.mode(1);
        Due.due("crossing(0, 0) at START", y.crossing(0, 0), NONE);
    }

    private static void peaks() {
        Due.promise(25, "NONE: of no samples, of one and of two (both are there)");
        TwinPanel x = Panels.playing(0.5, 1.0, 0.5);
        Due.due("peak(0, 0) in PATCH", x.peak(0, 0), NONE);
        places(true, new double[] {0.5});
        places(true, new double[] {0.5, 1.0});
        places(true, new double[] {1.0, 0.5});
        Due.promise(25, "above the one ahead of it, and not below the one behind it");
        places(true, new double[] {0.0, 1.0, 0.0}, 1);
        places(true, new double[] {0.0, 1.0, 1.0}, 1);
        places(true, new double[] {0.0, TINY, 0.0}, 1);
        places(true, new double[] {-1.0, -0.5, -0.75}, 1);
        places(true, new double[] {-TINY, 0.0, -TINY}, 1);
        places(true, new double[] {1.0, Math.nextUp(1.0), 1.0}, 1);
        places(true, new double[] {-1.0, 0.5, -0.5}, 1);
        places(true, new double[] {-0.5, 0.0, 0.0}, 1);
        Due.promise(25, "no PEAK: as great as the one ahead of it, or below the one behind it");
        places(true, new double[] {1.0, 1.0, 0.0});
        places(true, new double[] {1.0, 1.0, 1.0});
        places(true, new double[] {0.0, 0.5, 1.0});
        places(true, new double[] {0.0, 0.5, Math.nextUp(0.5)});
        places(true, new double[] {1.0, 0.5, 0.0});
        places(true, new double[] {1.0, 0.5, 1.0});
        places(true, new double[] {-0.5, -1.0, -0.75});
        places(true, new double[] {-1.0, -0.5, 0.5});
        places(true, new double[] {0.0, -TINY, 0.0});
        Due.promise(25, "no PEAK: at the first and at the last place");
        places(true, new double[] {1.5, 0.0, 0.0, 1.5});
        Due.promise(25, "The k-th PEAK, to the last but one");
        places(true, new double[] {0.0, 1.0, 0.5, 0.75, 0.75, 0.75, -1.0, -0.5, -1.5, 1.5, 1.0}, 1, 3, 7, 9);
        Due.promise(25, "a PEAK at the 119th sample, none at the 120th");
        TwinPanel y = Panels.playing(0.0, 0.0, 1.0);
        y.mode(1);
        y.run(100);
        y.run(18);
        Due.dueNumber("the 119th sample", y.sample(0, 118), 0.0);
        Due.due("peak(0, 38)", y.peak(0, 38), 116);
        y.run(1);
        Due.dueNumber("the 120th sample", y.sample(0, 119), 1.0);
        Due.due("peak(0, 39)", y.peak(0, 39), NONE);
        TwinPanel z = Panels.playing(0.0, 1.0, 0.0);
        z.mode(1);
        z.run(100);
        z.run(18);
        Due.due("peak(0, 39), none behind it yet", z.peak(0, 39), NONE);
        z.run(1);
        Due.due("peak(0, 39)", z.peak(0, 39), 118);
        Due.promise(25, "in PATCH too, till the next START");
        z.mode(0);
        Due.due("peak(0, 39)", z.peak(0, 39), 118);
        z.mode(1);
        Due.due("peak(0, 0) at START", z.peak(0, 0), NONE);
    }

    /** Strips that are asked side by side: the places of one are not those of another. */
    private static void sideBySide() {
        TwinPanel x = Panels.playing(-1.0, 1.0, 0.5, -0.5);
        for (int s = 1; s < 4; s++) {
            x.strip(s);
        }
        x.mode(1);
        x.run(3);
        int[] crossings = {1, 2, 1, 2};
        int[] peaks = {1, NONE, NONE, 2};
        for (int s = 0; s < 4; s++) {
            Due.promise(24, "of a STRIP among others");
            Due.due("crossing(" + s + ", 0)", x.crossing(s, 0), crossings[s]);
            Due.promise(25, "of a STRIP among others");
            Due.due("peak(" + s + ", 0)", x.peak(s, 0), peaks[s]);
        }
    }

    public static void main(String[] args) {
        strips();
        samples();
        crossings();
        peaks();
        sideBySide();
        Due.endOf(21, 25);
    }
}
