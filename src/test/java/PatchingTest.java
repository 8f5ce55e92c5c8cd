/** Promises 1 to 7: a new object, module, cord, point, begin, setting, rule. */
public final class PatchingTest {
    private static final int SUM = 0, GATHER = 2, TRACK = 3, TABLE = 7, PART = 10, DELAY = 11, LIMIT = 12, NOISE = 13;

    private static long b(double v) {
        return Due.bits(v);
    }

    private static TwinPanel started() {
        TwinPanel x = new TwinPanel();
        x.module(NOISE, b(7.0));
        x.module(TABLE, 0L);
        x.cord(1, 0, 0, false);
        x.point(1, b(-1.0), b(-1.0));
        x.point(1, b(1.0), b(1.0));
        x.module(PART, b(0.5));
        x.cord(2, 0, 0, false);
        Due.due("mode(1)", x.mode(1), 0);
        return x;
    }

    private static void newObject() {
        TwinPanel x = new TwinPanel();
        int[] counts = {0, 0, 0, 0, 0, 0, 0, 4};
        for (int what = 0; what < counts.length; what++) {
            Due.due("new: count(" + what + ")", x.count(what), counts[what]);
        }
        Due.due("new: now()", x.now(), 0);
        Due.due("new: time()", x.time(), 0);
        Due.due("new: broken()", x.broken(), 0);
        Due.due("new: check()", x.check(), 0);
        Due.due("new: digest()", x.digest(), 47L * 31L * 31L);
        Due.due("new: swept(0)", x.swept(0), 0);
        Due.due("new: about(0, 0)", x.about(0, 0), TwinPanel.UNKNOWN);
        Due.due("new: mode(1)", x.mode(1), 0);
        Due.due("new: run(100)", x.run(100), 100);
    }

    private static void modules() {
        TwinPanel x = new TwinPanel();
        Due.due("module(-1)", x.module(-1, 0L), TwinPanel.OUTSIDE);
        Due.due("module(14)", x.module(14, 0L), TwinPanel.OUTSIDE);
        Due.due("module(sum, 1.0)", x.module(SUM, b(1.0)), TwinPanel.OUTSIDE);
        Due.due("module(sum, NaN)", x.module(SUM, b(Double.NaN)), TwinPanel.OUTSIDE);
        for (int m = 0; m < 20; m++) {
            Due.due("module " + m, x.module(m % 2 == 0 ? SUM : GATHER, 0L), m);
        }
        Due.due("module 20", x.module(SUM, 0L), TwinPanel.FULL);
        Due.due("module 20, outside first", x.module(SUM, b(1.0)), TwinPanel.OUTSIDE);
        Due.due("count(0)", x.count(0), 20);
        Due.due("about(19, 0)", x.about(19, 0), GATHER);
        TwinPanel y = started();
        Due.due("module in START", y.module(SUM, 0L), TwinPanel.STATE);
        Due.due("module in START, outside first", y.module(SUM, b(1.0)), TwinPanel.OUTSIDE);
        Due.due("count(0) behind refusals", y.count(0), 3);
    }

    /** Settings that a kind takes, and others, for module(), setting() and so for sweeps too. */
    private static void settings() {
        double up = Math.nextUp(1.0);
        int[] kinds = {PART, DELAY, LIMIT, NOISE, SUM};
        double[][] good = {{-1.0, 1.0, 0.0, -0.0, 0.3}, {1.0, 16.0, 7.0}, {0.0, 1.5, 0.7}, {0.0, 1000000.0, 12.0},
            {0.0, -0.0}};
        double[][] bad = {{up, -up, Double.NaN}, {0.0, 17.0, 1.5, -1.0, Double.POSITIVE_INFINITY},
            {-Double.MIN_VALUE, Math.nextUp(1.5), Double.NaN}, {-1.0, 0.5, 1000001.0, 1.0e300, Double.NaN},
            {Double.MIN_VALUE, 1.0, Double.NEGATIVE_INFINITY}};
        for (int i = 0; i < kinds.length; i++) {
            TwinPanel x = new TwinPanel();
            int made = 0;
            for (double s : good[i]) {
                Due.due("module(" + kinds[i] + ", " + s + ")", x.module(kinds[i], b(s)), made);
                Due.due("setting(0, " + s + ")", x.setting(0, b(s)), 1);
                made++;
            }
            long before = x.digest();
            for (double s : bad[i]) {
                Due.due("module(" + kinds[i] + ", " + s + ")", x.module(kinds[i], b(s)), TwinPanel.OUTSIDE);
                Due.due("setting(0, " + s + ")", x.setting(0, b(s)), TwinPanel.OUTSIDE);
            }
            Due.due("digest() behind refusals", x.digest(), before);
            Due.due("setting(-1)", x.setting(-1, b(good[i][0])), TwinPanel.UNKNOWN);
            Due.due("setting of none", x.setting(made, b(Double.NaN)), TwinPanel.UNKNOWN);
        }
        TwinPanel y = started();
        Due.due("setting in START", y.setting(2, b(0.25)), TwinPanel.STATE);
        Due.due("setting in START, outside first", y.setting(2, b(2.0)), TwinPanel.OUTSIDE);
        y.mode(0);
        Due.due("setting in PATCH", y.setting(2, b(-0.25)), 1);
        y.mode(1);
        y.run(1);
        Due.dueNumber("the part goes by its setting", y.reading(2), -0.25 * Double.longBitsToDouble(y.reading(0)));
    }

    private static void cords() {
        TwinPanel x = new TwinPanel();
        x.module(SUM, 0L);
        x.module(NOISE, 0L);
        Due.due("cord", x.cord(0, 0, 1, false), 1);
        Due.due("cord turned", x.cord(0, 5, 1, true), 1);
        Due.due("cord from itself", x.cord(0, 3, 0, false), 1);
        Due.due("cord to a noise", x.cord(1, 2, 0, false), 1);
        Due.due("count(2)", x.count(2), 4);
        Due.due("about(0, 1)", x.about(0, 1), 1);
        Due.due("about(0, 2)", x.about(0, 2), -1);
        Due.due("about(0, 7)", x.about(0, 7), 0);
        Due.due("about(0, 12)", x.about(0, 12), 1);
        Due.due("cord away", x.cord(0, 5, TwinPanel.NONE, true), 1);
        Due.due("about(0, 6) without cord", x.about(0, 6), -1);
        Due.due("about(0, 12) without cord", x.about(0, 12), 0);
        Due.due("cord instead of another", x.cord(0, 0, 0, true), 1);
        Due.due("about(0, 1) instead", x.about(0, 1), 0);
        Due.due("count(2) then", x.count(2), 3);
        long before = x.digest();
        Due.due("cord of no module", x.cord(2, 0, 0, false), TwinPanel.UNKNOWN);
        Due.due("cord of module -1", x.cord(-1, 0, 0, false), TwinPanel.UNKNOWN);
        Due.due("cord from no module", x.cord(0, 0, 2, false), TwinPanel.UNKNOWN);
        Due.due("cord from -2", x.cord(0, 9, -2, false), TwinPanel.UNKNOWN);
        Due.due("cord of input 6", x.cord(0, 6, 1, false), TwinPanel.OUTSIDE);
        Due.due("cord of input -1", x.cord(0, -1, 1, false), TwinPanel.OUTSIDE);
        Due.due("digest() behind refusals", x.digest(), before);
        TwinPanel y = started();
        Due.due("cord in START", y.cord(2, 0, 1, false), TwinPanel.STATE);
        Due.due("cord in START, outside first", y.cord(2, 6, 1, false), TwinPanel.OUTSIDE);
    }

    private static void points() {
        TwinPanel x = new TwinPanel();
        x.module(TABLE, 0L);
        x.module(SUM, 0L);
        Due.due("point of none", x.point(2, 0L, 0L), TwinPanel.UNKNOWN);
        Due.due("point of a sum", x.point(1, 0L, 0L), TwinPanel.OUTSIDE);
        Due.due("point, x too great", x.point(0, b(Math.nextUp(1.5)), 0L), TwinPanel.OUTSIDE);
        Due.due("point, y too great", x.point(0, 0L, b(-1.6)), TwinPanel.OUTSIDE);
        Due.due("point, x NaN", x.point(0, b(Double.NaN), 0L), TwinPanel.OUTSIDE);
        Due.due("point, y NaN", x.point(0, 0L, b(Double.NaN)), TwinPanel.OUTSIDE);
        Due.due("point 0", x.point(0, b(-1.5), b(1.5)), 1);
        Due.due("point at the same x", x.point(0, b(-1.5), b(1.0)), TwinPanel.OUTSIDE);
        Due.due("point below", x.point(0, b(-1.5), b(1.0)), TwinPanel.OUTSIDE);
        Due.due("point above as a double alone", x.point(0, b(Math.nextUp(-1.5)), 0L), TwinPanel.OUTSIDE);
        Due.due("point above as a float", x.point(0, b(Math.nextUp(-1.5f)), 0L), 2);
        for (int i = 3; i <= 8; i++) {
            Due.due("point " + i, x.point(0, b(i / 8.0), b(-1.5)), i);
        }
        Due.due("point 9", x.point(0, b(1.5), 0L), TwinPanel.FULL);
        Due.due("point 9, outside first", x.point(0, b(1.0), 0L), TwinPanel.OUTSIDE);
        Due.due("about(0, 13)", x.about(0, 13), 8);
        TwinPanel y = started();
        Due.due("point in START", y.point(1, b(1.25), 0L), TwinPanel.STATE);
        Due.due("point in START, outside first", y.point(1, b(0.5), 0L), TwinPanel.OUTSIDE);
        Due.due("about(1, 13)", y.about(1, 13), 2);
    }

    private static void begins() {
        TwinPanel x = new TwinPanel();
        int[] kinds = {GATHER, TRACK, DELAY, NOISE, SUM, TABLE};
        for (int i = 0; i < kinds.length; i++) {
            x.module(kinds[i], kinds[i] == DELAY ? b(1.0) : 0L);
            Due.due("begin of kind " + kinds[i], x.begin(i, b(-1.5)), i < 4 ? 1 : TwinPanel.OUTSIDE);
        }
        long before = x.digest();
        Due.due("begin too great", x.begin(0, b(Math.nextUp(1.5))), TwinPanel.OUTSIDE);
        Due.due("begin NaN", x.begin(0, b(Double.NaN)), TwinPanel.OUTSIDE);
        Due.due("begin infinite", x.begin(0, b(Double.NEGATIVE_INFINITY)), TwinPanel.OUTSIDE);
        Due.due("begin of none", x.begin(6, b(9.0)), TwinPanel.UNKNOWN);
        Due.due("digest() behind refusals", x.digest(), before);
        TwinPanel y = started();
        Due.due("begin in START", y.begin(0, b(0.5)), TwinPanel.STATE);
        Due.due("begin in START, outside first", y.begin(1, b(0.5)), TwinPanel.OUTSIDE);
        Due.due("reading(0)", y.reading(0), 0);
        y.mode(0);
        y.begin(0, b(0.7));
        y.mode(1);
        Due.dueNumber("reading of a start value", y.reading(0), 0.7);
        Due.due("single of a start value", y.single(0), Float.floatToRawIntBits(0.7f));
    }

    private static void rules() {
        TwinPanel x = new TwinPanel();
        Due.due("rule(-1, 4)", x.rule(-1, 4), TwinPanel.OUTSIDE);
        Due.due("rule(3, 4)", x.rule(3, 4), TwinPanel.OUTSIDE);
        Due.due("rule(0, 0)", x.rule(0, 0), TwinPanel.OUTSIDE);
        Due.due("rule(0, 21)", x.rule(0, 21), TwinPanel.OUTSIDE);
        Due.due("count(6)", x.count(6), 0);
        Due.due("count(7)", x.count(7), 4);
        Due.due("rule(2, 20)", x.rule(2, 20), 1);
        Due.due("count(6) then", x.count(6), 2);
        Due.due("count(7) then", x.count(7), 20);
        Due.due("rule(1, 1)", x.rule(1, 1), 1);
        TwinPanel y = started();
        Due.due("rule in START", y.rule(2, 2), TwinPanel.STATE);
        Due.due("rule in START, outside first", y.rule(2, 0), TwinPanel.OUTSIDE);
        Due.due("count(6) in START", y.count(6), 0);
    }

    public static void main(String[] args) {
        newObject();
        modules();
        settings();
        cords();
        points();
        begins();
        rules();
        Due.end();
    }
}
