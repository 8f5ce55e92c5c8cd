/** Promises 29 to 31: about, count, digest. */
public final class ToldTest {
    private static final int SUM = 0, GATHER = 2, TABLE = 7, PART = 10, NOISE = 13;

    private static long b(double v) {
        return Due.bits(v);
    }

    /** 3 sums 0, turned, and 2; 1 is a table of 3; the lamp of 3 lights at START. */
    private static TwinPanel panel() {
        TwinPanel x = new TwinPanel();
        x.module(NOISE, b(42.0));
        x.module(TABLE, 0L);
        x.module(PART, b(-0.625));
        x.module(SUM, 0L);
        x.cord(2, 0, 0, false);
        x.cord(3, 2, 0, true);
        x.cord(3, 5, 2, false);
        x.cord(1, 0, 3, false);
        x.point(1, b(-1.0), b(0.5));
        x.point(1, b(0.5), b(-0.1));
        x.point(1, b(1.0), b(0.1));
        x.begin(0, b(-1.1));
        x.fail(2, 17);
        x.strip(3);
        x.strip(0);
        return x;
    }

    private static void abouts() {
        TwinPanel x = panel();
        int[][] due = {
            {NOISE, -1, -1, -1, -1, -1, -1, 0, 0, 0, 0, 0, 0, 0, 0},
            {TABLE, 3, -1, -1, -1, -1, -1, 0, 0, 0, 0, 0, 0, 3, 0},
            {PART, 0, -1, -1, -1, -1, -1, 0, 0, 0, 0, 0, 0, 0, 17},
            {SUM, -1, -1, 0, -1, -1, 2, 0, 0, 1, 0, 0, 0, 0, 0}};
        for (int round = 0; round < 2; round++) {
            for (int m = 0; m < due.length; m++) {
                for (int what = 0; what < 15; what++) {
                    Due.due("about(" + m + ", " + what + ")", x.about(m, what), due[m][what]);
                }
                Due.due("about(" + m + ", -1)", x.about(m, -1), TwinPanel.OUTSIDE);
                Due.due("about(" + m + ", 15)", x.about(m, 15), TwinPanel.OUTSIDE);
            }
            Due.due("about(4, 0)", x.about(4, 0), TwinPanel.UNKNOWN);
            Due.due("about(-1, 99), unknown first", x.about(-1, 99), TwinPanel.UNKNOWN);
            x.mode(1);
        }
    }

    private static void counts() {
        TwinPanel x = panel();
        x.rule(1, 9);
        int[] inPatch = {4, 2, 4, 3, 0, 0, 1, 9};
        for (int what = 0; what < 8; what++) {
            Due.due("count(" + what + ")", x.count(what), inPatch[what]);
        }
        Due.due("count(-1)", x.count(-1), TwinPanel.OUTSIDE);
        Due.due("count(8)", x.count(8), TwinPanel.OUTSIDE);
        x.mode(1);
        Due.due("count(4) at START: the sum of 1.1 and 0.6875", x.count(4), 1);
        x.run(12);
        Due.due("count(5)", x.count(5), 12);
        x.run(30);
        Due.due("count(5) ahead of a fail", x.count(5), 16);
        x.mode(1);
        Due.due("count(5) at START", x.count(5), 16);
        x.mode(0);
        x.module(GATHER, 0L);
        Due.due("count(0)", x.count(0), 5);
        Due.due("count(4) in PATCH", x.count(4), 1);
    }

    private static long expected(TwinPanel x, long[] settings, long[] starts) {
        long h = 47;
        h = 31 * h + x.now();
        h = 31 * h + x.time();
        for (int m = 0; m < x.count(0); m++) {
            h = 31 * h + x.about(m, 0);
            h = 31 * h + settings[m];
            for (int i = 0; i < 6; i++) {
                h = 31 * h + x.about(m, 1 + i);
                h = 31 * h + x.about(m, 7 + i);
            }
            h = 31 * h + starts[m];
            if (x.now() != 0) {
                h = 31 * h + x.reading(m);
                h = 31 * h + x.single(m);
                h = 31 * h + x.lamp(m);
            }
        }
        for (int s = 0; s < x.count(1); s++) {
            h = 31 * h + x.samples(s);
            for (int i = 0; i < x.samples(s); i++) {
                h = 31 * h + x.sample(s, i);
            }
        }
        return h;
    }

    private static void digests() {
        long[] settings = {b(42.0), 0L, b(-0.625), 0L};
        long[] starts = {b(-1.1), 0L, 0L, 0L};
        TwinPanel x = panel();
        Due.due("digest() in PATCH", x.digest(), expected(x, settings, starts));
        x.mode(1);
        Due.due("digest() at START", x.digest(), expected(x, settings, starts));
        x.run(9);
        Due.due("digest() in HOLD", x.digest(), expected(x, settings, starts));
        x.mode(0);
        Due.due("digest() in PATCH again", x.digest(), expected(x, settings, starts));
        settings[2] = b(-0.0);
        starts[0] = b(-0.0);
        x.setting(2, settings[2]);
        x.begin(0, starts[0]);
        Due.due("digest() with -0.0", x.digest(), expected(x, settings, starts));
    }

    public static void main(String[] args) {
        abouts();
        counts();
        digests();
        Due.end();
    }
}
