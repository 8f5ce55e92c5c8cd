import java.util.List;
import java.util.function.Supplier;
import java.util.function.ToLongFunction;

/**
 * Every refusal of every promise, each with the panels in which it is due: of several that are due at once the
 * first as told by the call, and none changes anything.
 */
public final class RefusalsTest {
    private static final int UNKNOWN = TwinPanel.UNKNOWN, OUTSIDE = TwinPanel.OUTSIDE, STATE = TwinPanel.STATE,
        FULL = TwinPanel.FULL, NONE = TwinPanel.NONE;
    private static final int LOW = Integer.MIN_VALUE, HIGH = Integer.MAX_VALUE;
    private static final int N = Panels.MODULES, S = Panels.STRIPS;
    private static final int[] NO_MODULES = {-1, -2, N, N + 1, LOW, HIGH};
    private static final int[] NO_STRIPS = {-1, S, 6, LOW, HIGH};
    private static final double[] NO_NUMBERS = {Double.NaN, Double.POSITIVE_INFINITY, Double.NEGATIVE_INFINITY};

    private static final Supplier<TwinPanel> EMPTY = TwinPanel::new;
    private static final Supplier<TwinPanel> PATCHED = Panels::patched;
    private static final Supplier<TwinPanel> STARTED = Panels::started;
    private static final Supplier<TwinPanel> HELD = Panels::held;
    private static final Supplier<TwinPanel> FULL_PATCHED = Panels::fullPatched;
    private static final Supplier<TwinPanel> FULL_STARTED = Panels::fullStarted;
    private static final Supplier<TwinPanel> FULL_HELD = Panels::fullHeld;
    private static final List<Supplier<TwinPanel>> ANY = List.of(PATCHED, STARTED, HELD);
    private static final List<Supplier<TwinPanel>> ANY_OR_FULL =
        List.of(PATCHED, STARTED, HELD, FULL_PATCHED, FULL_STARTED, FULL_HELD);
    private static final List<Supplier<TwinPanel>> NOT_PATCH = List.of(STARTED, HELD);
    private static final List<Supplier<TwinPanel>> NOT_PATCH_OR_FULL =
        List.of(STARTED, HELD, FULL_STARTED, FULL_HELD);

    private static long b(double v) {
        return Due.bits(v);
    }

    private static void refused(String call, long due, List<Supplier<TwinPanel>> panels,
        ToLongFunction<TwinPanel> made) {
        for (Supplier<TwinPanel> panel : panels) {
            Told.leaves(call, due, panel, made);
        }
    }

    /** Of each kind the numbers next to those that it takes. */
    private static double[] badSettings(int kind) {
        double tiny = Double.MIN_VALUE;
        switch (kind) {
            case Panels.PART:
                return new double[] {Math.nextUp(1.0), -Math.nextUp(1.0), 2.0, -2.0};
            case Panels.DELAY:
                return new double[] {0.0, Math.nextDown(1.0), Math.nextUp(1.0), 1.5, Math.nextDown(16.0),
                    Math.nextUp(16.0), 17.0, -1.0, 4294967298.0};
            case Panels.LIMIT:
                return new double[] {-tiny, Math.nextUp(1.5), -1.5, 2.0};
            case Panels.NOISE:
                return new double[] {-tiny, tiny, -1.0, 0.5, Math.nextDown(1000000.0), Math.nextUp(1000000.0),
                    1000001.0, 4294967296.0};
            default:
                return new double[] {tiny, -tiny, 1.0, -1.0};
        }
    }

    private static void modules() {
        Due.promise(2, "OUTSIDE: KIND");
        for (int kind : new int[] {-1, 14, LOW, HIGH}) {
            refused("module(" + kind + ", 0.0)", OUTSIDE, ANY_OR_FULL, x -> x.module(kind, 0L));
        }
        Told.leaves("module(14, 0.0)", OUTSIDE, EMPTY, x -> x.module(14, 0L));
        Due.promise(2, "OUTSIDE: SETTING");
        for (int kind = 0; kind < 14; kind++) {
            int k = kind;
            for (double s : badSettings(kind)) {
                refused("module(" + k + ", " + s + ")", OUTSIDE, List.of(PATCHED), x -> x.module(k, b(s)));
            }
            for (double s : NO_NUMBERS) {
                refused("module(" + k + ", " + s + ")", OUTSIDE, List.of(PATCHED), x -> x.module(k, b(s)));
            }
            double s = badSettings(kind)[0];
            refused("module(" + k + ", " + s + ")", OUTSIDE, ANY_OR_FULL, x -> x.module(k, b(s)));
        }
        Due.promise(2, "STATE");
        for (int kind = 0; kind < 14; kind++) {
            int k = kind;
            refused("module(" + k + ")", STATE, NOT_PATCH, x -> x.module(k, Panels.settingOf(k)));
        }
        Due.promise(2, "STATE; FULL: the first of both");
        refused("module(0, 0.0)", STATE, List.of(FULL_STARTED, FULL_HELD), x -> x.module(0, 0L));
        Due.promise(2, "FULL: 20 MODULES at most");
        for (int kind = 0; kind < 14; kind++) {
            int k = kind;
            refused("module(" + k + ")", FULL, List.of(FULL_PATCHED), x -> x.module(k, Panels.settingOf(k)));
        }
    }

    private static void cords() {
        Due.promise(3, "UNKNOWN: m");
        for (int m : NO_MODULES) {
            refused("cord(" + m + ", 0, 1)", UNKNOWN, ANY, x -> x.cord(m, 0, 1, false));
            refused("cord(" + m + ", 0, NONE)", UNKNOWN, ANY, x -> x.cord(m, 0, NONE, false));
            refused("cord(" + m + ", 6, 1), OUTSIDE too", UNKNOWN, ANY, x -> x.cord(m, 6, 1, true));
        }
        Told.leaves("cord(0, 0, NONE)", UNKNOWN, EMPTY, x -> x.cord(0, 0, NONE, false));
        Told.leaves("cord(0, 0, 0)", UNKNOWN, EMPTY, x -> x.cord(0, 0, 0, false));
        refused("cord(20, 0, 0) of 20", UNKNOWN, List.of(FULL_PATCHED), x -> x.cord(20, 0, 0, false));
        Due.promise(3, "UNKNOWN: from");
        for (int from : new int[] {-2, N, N + 1, LOW, HIGH}) {
            refused("cord(1, 0, " + from + ")", UNKNOWN, ANY, x -> x.cord(1, 0, from, false));
            refused("cord(1, -1, " + from + "), OUTSIDE too", UNKNOWN, ANY, x -> x.cord(1, -1, from, false));
        }
        refused("cord(0, 0, 20) of 20", UNKNOWN, List.of(FULL_PATCHED), x -> x.cord(0, 0, 20, false));
        Due.promise(3, "OUTSIDE: INPUT");
        for (int input : new int[] {-1, 6, 7, LOW, HIGH}) {
            refused("cord(1, " + input + ", 0)", OUTSIDE, ANY, x -> x.cord(1, input, 0, true));
            refused("cord(1, " + input + ", NONE)", OUTSIDE, ANY, x -> x.cord(1, input, NONE, false));
        }
        refused("cord(19, 6, 0) of 20", OUTSIDE, List.of(FULL_PATCHED), x -> x.cord(19, 6, 0, false));
        Due.promise(3, "STATE");
        refused("cord(1, 0, 0)", STATE, NOT_PATCH, x -> x.cord(1, 0, 0, false));
        refused("cord(1, 2, NONE)", STATE, NOT_PATCH, x -> x.cord(1, 2, NONE, false));
        refused("cord(1, 2, 0), the one that it has", STATE, NOT_PATCH, x -> x.cord(1, 2, 0, false));
    }

    private static void points() {
        int t = Panels.TABLE_AT;
        long good = b(1.5);
        Due.promise(4, "UNKNOWN");
        for (int m : NO_MODULES) {
            refused("point(" + m + ", 1.5, 0.0)", UNKNOWN, ANY, x -> x.point(m, good, 0L));
            refused("point(" + m + ", 2.0, 0.0), OUTSIDE too", UNKNOWN, ANY, x -> x.point(m, b(2.0), 0L));
        }
        Told.leaves("point(0, 0.0, 0.0)", UNKNOWN, EMPTY, x -> x.point(0, 0L, 0L));
        refused("point(20, 1.5, 0.0) of 20", UNKNOWN, List.of(FULL_PATCHED), x -> x.point(20, good, 0L));
        Due.promise(4, "OUTSIDE: it is no TABLE");
        for (int m = 0; m < N; m++) {
            int at = m;
            if (m != t) {
                refused("point(" + m + ", 1.5, 0.0)", OUTSIDE, ANY_OR_FULL, x -> x.point(at, good, 0L));
            }
        }
        Due.promise(4, "OUTSIDE: x, y of a size above 1.5");
        for (double v : new double[] {Math.nextUp(1.5), -Math.nextUp(1.5), 2.0, -2.0, Double.MAX_VALUE}) {
            refused("point(x " + v + ")", OUTSIDE, ANY_OR_FULL, x -> x.point(t, b(v), 0L));
            refused("point(y " + v + ")", OUTSIDE, ANY_OR_FULL, x -> x.point(t, good, b(v)));
        }
        for (double v : NO_NUMBERS) {
            refused("point(x " + v + ")", OUTSIDE, ANY_OR_FULL, x -> x.point(t, b(v), 0L));
            refused("point(y " + v + ")", OUTSIDE, ANY_OR_FULL, x -> x.point(t, good, b(v)));
        }
        Due.promise(4, "OUTSIDE: x is not above the latest point's");
        for (double v : new double[] {0.5, Math.nextDown(0.5), -0.5, -1.5}) {
            refused("point(x " + v + ")", OUTSIDE, ANY_OR_FULL, x -> x.point(t, b(v), 0L));
        }
        Due.promise(4, "OUTSIDE: x is not above the latest point's, also as floats");
        double halfWay = ((double) Math.nextUp(0.5f) + 0.5) / 2.0;
        for (double v : new double[] {Math.nextUp(0.5), halfWay}) {
            refused("point(x " + v + ")", OUTSIDE, ANY, x -> x.point(t, b(v), 0L));
        }
        Due.promise(4, "STATE");
        refused("point(1.5, 0.0)", STATE, NOT_PATCH, x -> x.point(t, good, 0L));
        Due.promise(4, "STATE; FULL: the first of both");
        refused("point(1.5, 0.0) of 8", STATE, List.of(FULL_STARTED, FULL_HELD), x -> x.point(t, good, 0L));
        Due.promise(4, "FULL: 8 points at most");
        refused("point(1.5, 0.0) of 8", FULL, List.of(FULL_PATCHED), x -> x.point(t, good, 0L));
    }

    private static void begins() {
        Due.promise(5, "UNKNOWN");
        for (int m : NO_MODULES) {
            refused("begin(" + m + ", 0.5)", UNKNOWN, ANY, x -> x.begin(m, b(0.5)));
            refused("begin(" + m + ", 2.0), OUTSIDE too", UNKNOWN, ANY, x -> x.begin(m, b(2.0)));
        }
        Told.leaves("begin(0, 0.5)", UNKNOWN, EMPTY, x -> x.begin(0, b(0.5)));
        refused("begin(20, 0.5) of 20", UNKNOWN, List.of(FULL_PATCHED), x -> x.begin(20, b(0.5)));
        Due.promise(5, "OUTSIDE: its size is above 1.5");
        for (double v : new double[] {Math.nextUp(1.5), -Math.nextUp(1.5), 2.0, -2.0}) {
            refused("begin(1, " + v + ")", OUTSIDE, ANY, x -> x.begin(1, b(v)));
        }
        for (double v : NO_NUMBERS) {
            refused("begin(1, " + v + ")", OUTSIDE, ANY, x -> x.begin(1, b(v)));
        }
        Due.promise(5, "OUTSIDE: it does not remember");
        for (int m : new int[] {2, 3, 6, 7, 8}) {
            refused("begin(" + m + ", 0.5)", OUTSIDE, ANY, x -> x.begin(m, b(0.5)));
            refused("begin(" + m + ", 0.0)", OUTSIDE, ANY, x -> x.begin(m, 0L));
        }
        Due.promise(5, "STATE");
        for (int m : new int[] {0, 1, 4, 5}) {
            refused("begin(" + m + ", 0.5)", STATE, NOT_PATCH, x -> x.begin(m, b(0.5)));
        }
    }

    private static void settings() {
        int[] kinds = {13, 2, 7, 10, 11, 3, 0, 12, 5};
        Due.promise(6, "UNKNOWN");
        for (int m : NO_MODULES) {
            refused("setting(" + m + ", 0.0)", UNKNOWN, ANY, x -> x.setting(m, 0L));
            refused("setting(" + m + ", 99.5), OUTSIDE too", UNKNOWN, ANY, x -> x.setting(m, b(99.5)));
        }
        Told.leaves("setting(0, 0.0)", UNKNOWN, EMPTY, x -> x.setting(0, 0L));
        Due.promise(6, "OUTSIDE");
        for (int m = 0; m < N; m++) {
            int at = m;
            for (double s : badSettings(kinds[m])) {
                refused("setting(" + m + ", " + s + ")", OUTSIDE, ANY, x -> x.setting(at, b(s)));
            }
            for (double s : NO_NUMBERS) {
                refused("setting(" + m + ", " + s + ")", OUTSIDE, ANY, x -> x.setting(at, b(s)));
            }
        }
        Due.promise(6, "STATE");
        refused("setting(part, -1.0)", STATE, NOT_PATCH, x -> x.setting(Panels.PART_AT, b(-1.0)));
        refused("setting(delay, 16.0)", STATE, NOT_PATCH, x -> x.setting(Panels.DELAY_AT, b(16.0)));
        refused("setting(limit, 0.0)", STATE, NOT_PATCH, x -> x.setting(Panels.LIMIT_AT, 0L));
        refused("setting(noise, 8.0)", STATE, NOT_PATCH, x -> x.setting(Panels.NOISE_AT, b(8.0)));
        refused("setting(sum, 0.0)", STATE, NOT_PATCH, x -> x.setting(Panels.SUM_AT, 0L));
    }

    private static void rules() {
        Due.promise(7, "OUTSIDE: the RULE (0 to 2)");
        for (int rule : new int[] {-1, 3, LOW, HIGH}) {
            refused("rule(" + rule + ", 1)", OUTSIDE, ANY, x -> x.rule(rule, 1));
        }
        Due.promise(7, "OUTSIDE: k (1 to 20)");
        for (int k : new int[] {-1, 0, 21, LOW, HIGH}) {
            refused("rule(0, " + k + ")", OUTSIDE, ANY, x -> x.rule(0, k));
        }
        Due.promise(7, "STATE");
        refused("rule(0, 1)", STATE, NOT_PATCH, x -> x.rule(0, 1));
        refused("rule(2, 3), the one that it has", STATE, NOT_PATCH, x -> x.rule(2, 3));
    }

    private static void levelsAndModes() {
        Due.promise(10, "UNKNOWN");
        for (int m : NO_MODULES) {
            refused("level(" + m + ")", UNKNOWN, ANY, x -> x.level(m));
        }
        Told.leaves("level(0)", UNKNOWN, EMPTY, x -> x.level(0));
        refused("level(20) of 20", UNKNOWN, List.of(FULL_PATCHED), x -> x.level(20));
        Due.promise(11, "OUTSIDE: a MODE (0, 1)");
        for (int mode : new int[] {-1, 2, 3, LOW, HIGH}) {
            refused("mode(" + mode + ")", OUTSIDE, ANY, x -> x.mode(mode));
        }
        Due.promise(11, "OUTSIDE; STATE: the first of both");
        for (int rule = 1; rule <= 3; rule++) {
            int broken = rule;
            refused("mode(2) of rule " + rule + " broken", OUTSIDE, List.of(() -> Panels.breaking(broken)),
                x -> x.mode(2));
        }
        Due.promise(11, "STATE: to START, and check() would not tell 0");
        for (int rule = 1; rule <= 3; rule++) {
            int broken = rule;
            refused("mode(1) of rule " + rule + " broken", STATE, List.of(() -> Panels.breaking(broken)),
                x -> x.mode(1));
            Told.leaves("mode(1) of a panel that ran, rule " + rule + " broken then", STATE, () -> brokenSince(broken),
                x -> x.mode(1));
        }
    }

    /** patched() with time, lamps, samples behind it, in which this rule is broken since. */
    private static TwinPanel brokenSince(int rule) {
        TwinPanel x = Panels.patched();
        if (rule == 1) {
            x.cord(3, 0, NONE, false);
        } else if (rule == 2) {
            x.module(Panels.TABLE, 0L);
            x.cord(N, 0, 0, false);
        } else {
            x.cord(3, 1, 8, false);
        }
        return x;
    }

    private static void runs() {
        Due.promise(13, "OUTSIDE: n STEPS (1 to 100)");
        for (int n : new int[] {0, -1, 101, LOW, HIGH}) {
            refused("run(" + n + ")", OUTSIDE, ANY, x -> x.run(n));
            Told.leaves("run(" + n + ") in a new object", OUTSIDE, EMPTY, x -> x.run(n));
            Told.leaves("run(" + n + ") at 300, FULL too", OUTSIDE, () -> Panels.at(300), x -> x.run(n));
            Told.leaves("run(" + n + ") in PATCH at 300", OUTSIDE, () -> Panels.patchedAt(300), x -> x.run(n));
        }
        Due.promise(13, "STATE: PATCH");
        for (int n : new int[] {1, 100}) {
            Told.leaves("run(" + n + ")", STATE, PATCHED, x -> x.run(n));
            Told.leaves("run(" + n + ") in a new object", STATE, EMPTY, x -> x.run(n));
        }
        Due.promise(13, "STATE; FULL: the first of both");
        Told.leaves("run(1) in PATCH at 300", STATE, () -> Panels.patchedAt(300), x -> x.run(1));
        Due.promise(13, "FULL: TIME would be above 300");
        int[][] tooMany = {{300, 1}, {300, 100}, {299, 2}, {201, 100}, {250, 51}};
        for (int[] p : tooMany) {
            Told.leaves("run(" + p[1] + ") at " + p[0], FULL, () -> Panels.at(p[0]), x -> x.run(p[1]));
        }
        Due.promise(13, "FULL: a STRIP would have more than 120");
        int[][] tooLong = {{120, 1}, {119, 2}, {21, 100}, {101, 20}};
        for (int[] p : tooLong) {
            Told.leaves("run(" + p[1] + ") at " + p[0] + " samples", FULL, () -> Panels.withSamples(p[0]),
                x -> x.run(p[1]));
        }
    }

    private static void fails() {
        Due.promise(14, "UNKNOWN");
        for (int m : NO_MODULES) {
            refused("fail(" + m + ", 9)", UNKNOWN, ANY, x -> x.fail(m, 9));
            refused("fail(" + m + ", 301), OUTSIDE too", UNKNOWN, ANY, x -> x.fail(m, 301));
        }
        Told.leaves("fail(0, 0)", UNKNOWN, EMPTY, x -> x.fail(0, 0));
        Due.promise(14, "OUTSIDE: a TIME (1 to 300; 0: never)");
        for (int time : new int[] {-1, 301, LOW, HIGH}) {
            refused("fail(3, " + time + ")", OUTSIDE, ANY, x -> x.fail(3, time));
        }
    }

    private static void readings() {
        for (int m : NO_MODULES) {
            Due.promise(16, "0 also: UNKNOWN");
            refused("reading(" + m + ")", 0, ANY, x -> x.reading(m));
            Due.promise(17, "0 also: UNKNOWN");
            refused("single(" + m + ")", 0, ANY, x -> x.single(m));
            Due.promise(18, "UNKNOWN");
            refused("lamp(" + m + ")", UNKNOWN, ANY, x -> x.lamp(m));
            Due.promise(19, "0 also: UNKNOWN");
            refused("apart(" + m + ")", 0, ANY, x -> x.apart(m));
            Due.promise(20, "0 also: UNKNOWN");
            refused("rate(" + m + ")", 0, ANY, x -> x.rate(m));
        }
        for (int m = 0; m < N; m++) {
            int at = m;
            Due.promise(16, "0 also: PATCH");
            Told.leaves("reading(" + m + ")", 0, PATCHED, x -> x.reading(at));
            Due.promise(17, "0 also: PATCH");
            Told.leaves("single(" + m + ")", 0, PATCHED, x -> x.single(at));
            Due.promise(19, "0 also: PATCH");
            Told.leaves("apart(" + m + ")", 0, PATCHED, x -> x.apart(at));
            Due.promise(20, "0 also: PATCH");
            Told.leaves("rate(" + m + ")", 0, PATCHED, x -> x.rate(at));
            Due.promise(20, "0 also: no GATHER");
            if (m != Panels.GATHER_AT) {
                refused("rate(" + m + ")", 0, NOT_PATCH, x -> x.rate(at));
            }
        }
        Due.promise(18, "UNKNOWN");
        Told.leaves("lamp(0)", UNKNOWN, EMPTY, x -> x.lamp(0));
        refused("lamp(20) of 20", UNKNOWN, List.of(FULL_STARTED), x -> x.lamp(20));
    }

    private static void strips() {
        Due.promise(21, "UNKNOWN");
        for (int m : NO_MODULES) {
            refused("strip(" + m + ")", UNKNOWN, ANY, x -> x.strip(m));
        }
        Told.leaves("strip(0)", UNKNOWN, EMPTY, x -> x.strip(0));
        Due.promise(21, "UNKNOWN; STATE; FULL: the first of them");
        refused("strip(20) of 20, with 6 strips", UNKNOWN, List.of(FULL_PATCHED, FULL_STARTED, FULL_HELD),
            x -> x.strip(20));
        Due.promise(21, "STATE: not PATCH");
        refused("strip(0)", STATE, NOT_PATCH_OR_FULL, x -> x.strip(0));
        Due.promise(21, "FULL: 6 at most");
        refused("strip(0)", FULL, List.of(FULL_PATCHED), x -> x.strip(0));
        for (int s : NO_STRIPS) {
            Due.promise(22, "UNKNOWN");
            refused("samples(" + s + ")", UNKNOWN, ANY, x -> x.samples(s));
            Due.promise(23, "0 also: there is none");
            refused("sample(" + s + ", 0)", 0, ANY, x -> x.sample(s, 0));
            Due.promise(24, "UNKNOWN");
            refused("crossing(" + s + ", 0)", UNKNOWN, ANY, x -> x.crossing(s, 0));
            refused("crossing(" + s + ", -1)", UNKNOWN, ANY, x -> x.crossing(s, -1));
            Due.promise(25, "UNKNOWN");
            refused("peak(" + s + ", 0)", UNKNOWN, ANY, x -> x.peak(s, 0));
            refused("peak(" + s + ", -1)", UNKNOWN, ANY, x -> x.peak(s, -1));
        }
        Due.promise(23, "0 also: there is none");
        for (int i : new int[] {-1, 8, 119, 120, LOW, HIGH}) {
            refused("sample(0, " + i + ")", 0, List.of(HELD, PATCHED), x -> x.sample(0, i));
        }
        refused("sample(0, 1) at START", 0, List.of(STARTED), x -> x.sample(0, 1));
        refused("sample(6, 0) of 6", 0, List.of(FULL_HELD), x -> x.sample(6, 0));
        for (int i : new int[] {120, 121, -1}) {
            Told.leaves("sample(0, " + i + ") of 120", 0, () -> Panels.withSamples(120), x -> x.sample(0, i));
        }
    }

    private static void sweeps() {
        int p = Panels.PART_AT;
        long half = b(0.5);
        Due.promise(26, "UNKNOWN: m, q");
        for (int m : NO_MODULES) {
            refused("sweep of " + m, UNKNOWN, ANY, x -> x.sweep(m, half, 0L, 1, 1, 1));
            refused("sweep read at " + m, UNKNOWN, ANY, x -> x.sweep(p, half, 0L, 1, 1, m));
            refused("sweep of " + m + ", OUTSIDE too", UNKNOWN, ANY, x -> x.sweep(m, b(9.5), 0L, 0, 0, 1));
            refused("sweep read at " + m + ", OUTSIDE too", UNKNOWN, ANY, x -> x.sweep(p, b(9.5), 0L, 7, 41, m));
        }
        Told.leaves("sweep in a new object", UNKNOWN, EMPTY, x -> x.sweep(0, 0L, 0L, 1, 1, 0));
        Due.promise(26, "OUTSIDE: count (1 to 6)");
        for (int count : new int[] {0, -1, 7, LOW, HIGH}) {
            refused("sweep of count " + count, OUTSIDE, ANY, x -> x.sweep(p, half, 0L, count, 1, 1));
        }
        Due.promise(26, "OUTSIDE: n STEPS (1 to 40)");
        for (int n : new int[] {0, -1, 41, LOW, HIGH}) {
            refused("sweep of n " + n, OUTSIDE, ANY, x -> x.sweep(p, half, 0L, 1, n, 1));
        }
        Due.promise(26, "OUTSIDE: a SETTING is not as it may be");
        int[] kinds = {13, 2, 7, 10, 11, 3, 0, 12, 5};
        for (int m = 0; m < N; m++) {
            int at = m;
            for (double s : badSettings(kinds[m])) {
                refused("sweep of " + m + " from " + s, OUTSIDE, ANY, x -> x.sweep(at, b(s), 0L, 1, 1, 1));
            }
        }
        for (double v : NO_NUMBERS) {
            refused("sweep from " + v, OUTSIDE, ANY, x -> x.sweep(p, b(v), 0L, 1, 1, 1));
            refused("sweep by " + v, OUTSIDE, ANY, x -> x.sweep(p, 0L, b(v), 2, 1, 1));
        }
        refused("the sixth is above 1.0", OUTSIDE, ANY, x -> x.sweep(p, 0L, b(Math.nextUp(0.2)), 6, 1, 1));
        refused("the sixth is below -1.0", OUTSIDE, ANY, x -> x.sweep(p, 0L, b(-Math.nextUp(0.2)), 6, 1, 1));
        refused("the second alone is not whole", OUTSIDE, ANY, x -> x.sweep(Panels.DELAY_AT, b(1.0), half, 2, 1, 1));
        refused("the last is 17.0", OUTSIDE, ANY, x -> x.sweep(Panels.DELAY_AT, b(12.0), b(1.0), 6, 1, 1));
        refused("the last is 0.0", OUTSIDE, ANY, x -> x.sweep(Panels.DELAY_AT, b(5.0), b(-1.0), 6, 1, 1));
        refused("the first is below 0.0", OUTSIDE, ANY, x -> x.sweep(Panels.LIMIT_AT, b(-0.25), b(0.25), 6, 1, 1));
        refused("a gather by 0.5", OUTSIDE, ANY, x -> x.sweep(Panels.GATHER_AT, 0L, half, 2, 1, 1));
        Due.promise(26, "STATE: PATCH");
        refused("sweep in PATCH", STATE, List.of(PATCHED), x -> x.sweep(p, half, 0L, 6, 40, 1));
        refused("sweep in PATCH of a delay", STATE, List.of(PATCHED), x -> x.sweep(4, b(16.0), 0L, 1, 1, 0));
    }

    private static void trialsAndTellers() {
        Due.promise(27, "0 also: there is none");
        for (int j : new int[] {-1, 3, 6, LOW, HIGH}) {
            refused("swept(" + j + ") of 3", 0, ANY, x -> x.swept(j));
            Told.leaves("swept(" + j + ") in a new object", 0, EMPTY, x -> x.swept(j));
        }
        Told.leaves("swept(0) in a new object", 0, EMPTY, x -> x.swept(0));
        Due.promise(28, "0 also: UNKNOWN");
        for (int q : NO_MODULES) {
            refused("halved(" + q + ", 5)", 0, ANY, x -> x.halved(q, 5));
        }
        Due.promise(28, "0 also: OUTSIDE (1 to 20)");
        for (int n : new int[] {0, -1, 21, LOW, HIGH}) {
            refused("halved(1, " + n + ")", 0, ANY, x -> x.halved(1, n));
        }
        Due.promise(28, "0 also: PATCH");
        Told.leaves("halved(1, 20)", 0, PATCHED, x -> x.halved(1, 20));
        Due.promise(29, "UNKNOWN");
        for (int m : NO_MODULES) {
            refused("about(" + m + ", 0)", UNKNOWN, ANY, x -> x.about(m, 0));
            refused("about(" + m + ", 15), OUTSIDE too", UNKNOWN, ANY, x -> x.about(m, 15));
        }
        Told.leaves("about(0, 0)", UNKNOWN, EMPTY, x -> x.about(0, 0));
        Due.promise(29, "OUTSIDE");
        for (int what : new int[] {-1, 15, LOW, HIGH}) {
            refused("about(0, " + what + ")", OUTSIDE, ANY, x -> x.about(0, what));
        }
        Due.promise(30, "OUTSIDE");
        for (int what : new int[] {-1, 8, LOW, HIGH}) {
            refused("count(" + what + ")", OUTSIDE, ANY, x -> x.count(what));
            Told.leaves("count(" + what + ") in a new object", OUTSIDE, EMPTY, x -> x.count(what));
        }
    }

    /** A panel in which nothing is lit, swept or broken could not tell that a refused call changed it. */
    private static void panelsHaveWhatCouldChange() {
        Due.terms("Refusals: they change nothing");
        for (Supplier<TwinPanel> panel : ANY) {
            TwinPanel x = panel.get();
            Due.due("lamp(8)", x.lamp(8), 0);
            Due.due("lamp(2)", x.lamp(2), NONE);
            Due.due("broken()", x.broken(), 1);
            Due.due("count(5)", x.count(5), 7);
            Due.due("about(3, 14)", x.about(3, 14), 12);
            Due.due("time()", x.time(), x.now() == 1 ? 0 : 7);
            Due.due("samples(1)", x.samples(1), x.now() == 1 ? 1 : 8);
            for (int j = 0; j < 3; j++) {
                Due.dueTrue("swept(" + j + ") is not 0", x.swept(j) != 0L);
            }
        }
        for (Supplier<TwinPanel> panel : List.of(FULL_PATCHED, FULL_STARTED, FULL_HELD)) {
            TwinPanel x = panel.get();
            Due.due("count(0)", x.count(0), 20);
            Due.due("count(1)", x.count(1), 6);
            Due.due("about(2, 13)", x.about(Panels.TABLE_AT, 13), 8);
        }
    }

    public static void main(String[] args) {
        panelsHaveWhatCouldChange();
        modules();
        cords();
        points();
        begins();
        settings();
        rules();
        levelsAndModes();
        runs();
        fails();
        readings();
        strips();
        sweeps();
        trialsAndTellers();
        Due.end();
    }
}
