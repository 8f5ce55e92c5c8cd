import java.util.ArrayList;
import java.util.List;

/** Promises 21 to 25: strip, samples, sample, crossing, peak. */
public final class StripsTest {
    private static final int GATHER = 2, DELAY = 11, NOISE = 13;

    private static long b(double v) {
        return Due.bits(v);
    }

    private static void strips() {
        TwinPanel x = new TwinPanel();
        Due.due("strip of none", x.strip(0), TwinPanel.UNKNOWN);
        x.module(NOISE, b(5.0));
        x.begin(0, b(0.4));
        Due.due("strip(-1)", x.strip(-1), TwinPanel.UNKNOWN);
        Due.due("strip(1)", x.strip(1), TwinPanel.UNKNOWN);
        Due.due("strip(0)", x.strip(0), 0);
        Due.due("samples(0) till START", x.samples(0), 0);
        Due.due("sample(0, 0) till START", x.sample(0, 0), 0L);
        x.mode(1);
        Due.due("samples(0) at START", x.samples(0), 1);
        Due.dueNumber("sample(0, 0) at START", x.sample(0, 0), 0.4);
        Due.due("strip in START", x.strip(0), TwinPanel.STATE);
        Due.due("strip in START, unknown first", x.strip(1), TwinPanel.UNKNOWN);
        x.run(3);
        Due.due("samples(0) behind 3 steps", x.samples(0), 4);
        Due.due("sample(0, 3)", x.sample(0, 3), x.reading(0));
        Due.due("strip in HOLD", x.strip(0), TwinPanel.STATE);
        long third = x.sample(0, 3);
        x.mode(0);
        Due.due("samples(0) in PATCH", x.samples(0), 4);
        Due.due("sample(0, 3) in PATCH", x.sample(0, 3), third);
        for (int s = 1; s < 6; s++) {
            Due.due("strip " + s, x.strip(0), s);
            Due.due("samples(" + s + ")", x.samples(s), 0);
        }
        Due.due("strip 6", x.strip(0), TwinPanel.FULL);
        Due.due("strip 6, unknown first", x.strip(7), TwinPanel.UNKNOWN);
        Due.due("samples(0) kept", x.samples(0), 4);
        Due.due("count(1)", x.count(1), 6);
        x.mode(1);
        for (int s = 0; s < 6; s++) {
            Due.due("samples(" + s + ") at START", x.samples(s), 1);
        }
        Due.due("samples(-1)", x.samples(-1), TwinPanel.UNKNOWN);
        Due.due("samples(6)", x.samples(6), TwinPanel.UNKNOWN);
        Due.due("sample(6, 0)", x.sample(6, 0), 0L);
        Due.due("sample(-1, 0)", x.sample(-1, 0), 0L);
        Due.due("sample(0, -1)", x.sample(0, -1), 0L);
        Due.due("sample(0, 1)", x.sample(0, 1), 0L);
    }

    /** Each strip holds the readings of its own module. */
    private static void eachItsOwn() {
        TwinPanel x = new TwinPanel();
        for (int m = 0; m < 6; m++) {
            x.module(NOISE, b(100.0 + m));
            x.begin(m, b(m / 8.0));
        }
        for (int s = 0; s < 6; s++) {
            x.strip(5 - s);
        }
        x.mode(1);
        for (int i = 0; i < 8; i++) {
            for (int s = 0; s < 6; s++) {
                Due.due("sample(" + s + ", " + i + ")", x.sample(s, i), x.reading(5 - s));
                Due.due("samples(" + s + ")", x.samples(s), i + 1);
            }
            x.run(1);
        }
    }

    /** Places found here from the samples told; of a noise, a delay, a gather, and a noise from below 0. */
    private static void crossingsAndPeaks() {
        TwinPanel x = new TwinPanel();
        x.module(NOISE, b(77.0));
        x.module(DELAY, b(4.0));
        x.module(GATHER, 0L);
        x.module(NOISE, b(78.0));
        x.cord(1, 0, 0, false);
        x.cord(2, 0, 0, false);
        x.begin(3, b(-0.1));
        x.rule(0, 1);
        for (int m = 0; m < 4; m++) {
            x.strip(m);
        }
        Due.due("crossing of an empty strip", x.crossing(0, 0), TwinPanel.NONE);
        Due.due("peak of an empty strip", x.peak(0, 0), TwinPanel.NONE);
        x.mode(1);
        Due.due("crossing of one sample", x.crossing(3, 0), TwinPanel.NONE);
        x.run(60);
        for (int s = 0; s < 4; s++) {
            double[] v = new double[x.samples(s)];
            for (int i = 0; i < v.length; i++) {
                v[i] = Double.longBitsToDouble(x.sample(s, i));
            }
            List<Integer> crossings = new ArrayList<>();
            List<Integer> peaks = new ArrayList<>();
            for (int i = 1; i < v.length; i++) {
                if (v[i] > 0 && !(v[i - 1] > 0) || !(v[i] > 0) && v[i - 1] > 0) {
                    crossings.add(i);
                }
                if (i < v.length - 1 && v[i] > v[i - 1] && !(v[i] < v[i + 1])) {
                    peaks.add(i);
                }
            }
            Due.dueTrue("strip " + s + " has some", crossings.size() + peaks.size() > 2);
            for (int k = 0; k < 20; k++) {
                Due.due("crossing(" + s + ", " + k + ")", x.crossing(s, k),
                    k < crossings.size() ? crossings.get(k) : -1);
                Due.due("peak(" + s + ", " + k + ")", x.peak(s, k), k < peaks.size() ? peaks.get(k) : -1);
            }
        }
        Due.due("crossing(0, -1)", x.crossing(0, -1), TwinPanel.NONE);
        Due.due("peak(0, -1)", x.peak(0, -1), TwinPanel.NONE);
        Due.due("crossing(4, 0)", x.crossing(4, 0), TwinPanel.UNKNOWN);
        Due.due("peak(4, 0)", x.peak(4, 0), TwinPanel.UNKNOWN);
        Due.due("crossing(-1, 0)", x.crossing(-1, 0), TwinPanel.UNKNOWN);
        Due.due("peak(-1, 0)", x.peak(-1, 0), TwinPanel.UNKNOWN);
    }

    /** Delays in a ring, one cord of it turned: samples that stand still at 0.5, 0.0 and -0.5. */
    private static void flatTops() {
        TwinPanel x = new TwinPanel();
        x.module(DELAY, b(2.0));
        x.module(DELAY, b(1.0));
        x.module(DELAY, b(2.0));
        x.cord(0, 0, 1, false);
        x.cord(1, 0, 2, false);
        x.cord(2, 0, 0, true);
        x.begin(0, b(0.0));
        x.begin(1, b(0.5));
        x.begin(2, b(0.5));
        x.strip(0);
        x.mode(1);
        x.run(14);
        // 0 0 .5 .5 .5 0 0 -.5 -.5 -.5 0 0 .5 .5 .5
        Due.dueNumber("sample(0, 2)", x.sample(0, 2), 0.5);
        Due.dueNumber("sample(0, 4)", x.sample(0, 4), 0.5);
        Due.due("sample(0, 5)", x.sample(0, 5), 0L);
        Due.dueNumber("sample(0, 7)", x.sample(0, 7), -0.5);
        Due.due("crossing to above 0", x.crossing(0, 0), 2);
        Due.due("crossing to 0, which is not above", x.crossing(0, 1), 5);
        Due.due("no crossing from 0 to below", x.crossing(0, 2), 12);
        Due.due("a flat top is a peak at its first place", x.peak(0, 0), 2);
        Due.due("a flat top below or at 0 too", x.peak(0, 1), 10);
        Due.due("the third", x.peak(0, 2), 12);
        Due.due("the last one has none behind it", x.peak(0, 3), TwinPanel.NONE);
    }

    /** A peak needs a sample behind it. */
    private static void peakAtTheEnd() {
        TwinPanel x = new TwinPanel();
        x.module(GATHER, 0L);
        x.cord(0, 0, 0, false);
        x.begin(0, b(0.5));
        x.strip(0);
        x.mode(1);
        x.run(10);
        Due.due("it grows: no peak at the last place", x.peak(0, 0), TwinPanel.NONE);
        x.run(30);
        Due.dueNumber("it stands at 1.5", x.reading(0), 1.5);
        Due.due("the first place at 1.5", x.peak(0, 0), x.lamp(0));
    }

    public static void main(String[] args) {
        strips();
        eachItsOwn();
        crossingsAndPeaks();
        flatTops();
        peakAtTheEnd();
        Due.end();
    }
}
