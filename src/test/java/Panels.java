/** Panels that tests begin from. Each call makes the same panel anew. */
final class Panels {
    static final int SUM = 0, TURN = 1, GATHER = 2, TRACK = 3, PRODUCT = 4, QUOTIENT = 5, ROOT = 6, TABLE = 7,
        COMPARE = 8, RELAY = 9, PART = 10, DELAY = 11, LIMIT = 12, NOISE = 13;
    static final int PATCH = 0, START = 1, HOLD = 2;
    /** How many modules and strips held() has, and which of its modules are told of in refusals. */
    static final int MODULES = 9, STRIPS = 2;
    static final int NOISE_AT = 0, GATHER_AT = 1, TABLE_AT = 2, PART_AT = 3, DELAY_AT = 4, SUM_AT = 6, LIMIT_AT = 7;

    private Panels() {
    }

    private static long b(double v) {
        return Due.bits(v);
    }

    /** A setting that the kind takes. */
    static long settingOf(int kind) {
        return kind == DELAY ? b(3.0) : kind == NOISE ? b(7.0) : kind == PART ? b(0.5) : kind == LIMIT ? b(0.75) : 0L;
    }

    /** Nine modules of nine kinds, two strips, a module that is to fail at 12; broken() tells 1. */
    private static TwinPanel tied() {
        TwinPanel x = new TwinPanel();
        int[] kinds = {NOISE, GATHER, TABLE, PART, DELAY, TRACK, SUM, LIMIT, QUOTIENT};
        for (int kind : kinds) {
            x.module(kind, settingOf(kind));
        }
        x.check();
        x.cord(1, 2, 0, false);
        x.cord(1, 4, 1, true);
        x.cord(2, 0, 1, false);
        x.cord(3, 0, 1, false);
        x.cord(4, 0, 0, false);
        x.cord(5, 0, 1, false);
        x.cord(5, 1, 0, true);
        x.cord(6, 0, 1, false);
        x.cord(6, 5, 0, true);
        x.cord(7, 0, 6, false);
        x.cord(8, 0, 1, false);
        x.cord(8, 1, 3, false);
        x.point(2, b(-0.5), b(0.25));
        x.point(2, b(0.5), b(-0.3));
        x.begin(0, b(0.3));
        x.begin(1, b(0.9));
        x.begin(4, b(-0.2));
        x.rule(2, 3);
        x.strip(1);
        x.strip(6);
        x.fail(3, 12);
        return x;
    }

    /** In HOLD at time 7, behind a sweep of three. */
    static TwinPanel held() {
        TwinPanel x = tied();
        x.mode(START);
        x.run(7);
        x.sweep(PART_AT, b(0.25), b(0.25), 3, 5, 8);
        return x;
    }

    /** At START again, behind what held() did. */
    static TwinPanel started() {
        TwinPanel x = held();
        x.mode(START);
        return x;
    }

    /** In PATCH again, behind what held() did. */
    static TwinPanel patched() {
        TwinPanel x = held();
        x.mode(PATCH);
        return x;
    }

    /** held() with as many modules, points and strips as there may be. */
    static TwinPanel fullHeld() {
        TwinPanel x = tied();
        for (int m = MODULES; m < 20; m++) {
            x.module(SUM, 0L);
            x.cord(m, 0, m - 1, false);
        }
        for (int i = 3; i <= 8; i++) {
            x.point(TABLE_AT, b(0.4 + i / 16.0), b(i / 8.0));
        }
        for (int s = STRIPS; s < 6; s++) {
            x.strip(s);
        }
        x.mode(START);
        x.run(4);
        x.sweep(PART_AT, b(0.25), b(0.25), 3, 5, 8);
        return x;
    }

    static TwinPanel fullStarted() {
        TwinPanel x = fullHeld();
        x.mode(START);
        return x;
    }

    static TwinPanel fullPatched() {
        TwinPanel x = fullHeld();
        x.mode(PATCH);
        return x;
    }

    /** A panel without strips, in HOLD at this time. */
    static TwinPanel at(int time) {
        TwinPanel x = new TwinPanel();
        x.module(NOISE, b(11.0));
        x.module(GATHER, 0L);
        x.cord(1, 0, 0, false);
        x.cord(1, 1, 1, true);
        x.mode(START);
        for (int done = 0; done < time; done += 100) {
            x.run(Math.min(100, time - done));
        }
        x.sweep(0, b(11.0), b(1.0), 2, 5, 1);
        return x;
    }

    /** at(time), in PATCH. */
    static TwinPanel patchedAt(int time) {
        TwinPanel x = at(time);
        x.mode(PATCH);
        return x;
    }

    /** A panel in HOLD whose strip has this many samples. */
    static TwinPanel withSamples(int samples) {
        TwinPanel x = new TwinPanel();
        x.module(NOISE, b(11.0));
        x.strip(0);
        x.mode(START);
        for (int done = 1; done < samples; done += 100) {
            x.run(Math.min(100, samples - done));
        }
        x.sweep(0, b(11.0), b(1.0), 2, 5, 0);
        return x;
    }

    /** Breaks this rule of check(), and those behind it, first at module 1. */
    static TwinPanel breaking(int rule) {
        TwinPanel x = new TwinPanel();
        x.module(NOISE, 0L);
        x.module(TABLE, 0L);
        x.module(SUM, 0L);
        if (rule > 1) {
            x.cord(1, 0, rule == 3 ? 1 : 0, false);
        }
        x.cord(2, 0, 2, false);
        if (rule == 3) {
            x.point(1, 0L, 0L);
            x.point(1, b(1.0), 0L);
        }
        return x;
    }

    /** Noises that read these numbers at START. */
    static TwinPanel noises(double... starts) {
        TwinPanel x = new TwinPanel();
        for (int i = 0; i < starts.length; i++) {
            x.module(NOISE, 0L);
            x.begin(i, b(starts[i]));
        }
        return x;
    }

    /** Noises 0, 1, .. that read these at START, and behind them a module of the kind tied to them, in order. */
    static TwinPanel fed(int kind, double setting, double... ins) {
        TwinPanel x = noises(ins);
        x.module(kind, b(setting));
        for (int i = 0; i < ins.length; i++) {
            x.cord(ins.length, i, i, false);
        }
        return x;
    }

    /** A delay of so many samples in a ring with itself has these readings, one by one (16 at most). */
    static TwinPanel playing(double... samples) {
        TwinPanel x = new TwinPanel();
        int n = samples.length;
        for (int i = 0; i < n; i++) {
            x.module(DELAY, b(1.0));
            x.begin(i, b(samples[i]));
        }
        for (int i = 0; i < n; i++) {
            x.cord(i, 0, (i + 1) % n, false);
        }
        x.strip(0);
        return x;
    }
}
