/** The edges of promises 1 to 10: what is taken to the last number, and none, one and the most of each. */
public final class EdgesOfPatchingTest {
    private static final int NONE = TwinPanel.NONE;

    private static long b(double v) {
        return Due.bits(v);
    }

    private static void newObject() {
        Due.promise(1, "No MODULES; PATCH; RULE 0, k 4");
        TwinPanel x = new TwinPanel();
        int[] counts = {0, 0, 0, 0, 0, 0, 0, 4};
        for (int what = 0; what < 8; what++) {
            Due.due("count(" + what + ")", x.count(what), counts[what]);
        }
        Due.due("now()", x.now(), 0);
        Due.due("time()", x.time(), 0);
        Due.due("check()", x.check(), 0);
        Due.promise(1, "each object is one of its own");
        TwinPanel y = Panels.held();
        Due.dueText("a new one", Told.now(new TwinPanel()), Told.now(x));
        Due.due("count(0) of the other", y.count(0), Panels.MODULES);
        Due.promise(1, "a panel of no MODULES starts and runs");
        Due.due("mode(1)", x.mode(1), 0);
        Due.due("run(1)", x.run(1), 1);
        Due.due("run(100)", x.run(100), 100);
        Due.due("time()", x.time(), 101);
        Due.due("now()", x.now(), 2);
    }

    /** Of each kind the ends of its settings; of most there is one alone. */
    private static double[] ends(int kind) {
        switch (kind) {
            case Panels.PART:
                return new double[] {-1.0, 1.0, 0.0, Double.MIN_VALUE, Math.nextDown(1.0), -Math.nextDown(1.0)};
            case Panels.DELAY:
                return new double[] {1.0, 16.0, 2.0, 15.0};
            case Panels.LIMIT:
                return new double[] {0.0, 1.5, Double.MIN_VALUE, Math.nextDown(1.5)};
            case Panels.NOISE:
                return new double[] {0.0, 1000000.0, 1.0, 999999.0};
            default:
                return new double[] {0.0};
        }
    }

    private static void modules() {
        Due.promise(2, "KINDS 0 to 13, SETTINGS to the last that may be");
        for (int kind = 0; kind < 14; kind++) {
            TwinPanel x = new TwinPanel();
            double[] ends = ends(kind);
            for (int i = 0; i < ends.length; i++) {
                Due.due("module(" + kind + ", " + ends[i] + ")", x.module(kind, b(ends[i])), i);
                Due.due("its kind", x.about(i, 0), kind);
            }
        }
        Due.promise(2, "numbered as they come, 20 at most");
        TwinPanel y = new TwinPanel();
        for (int m = 0; m < 20; m++) {
            Due.due("count(0) ahead of " + m, y.count(0), m);
            Due.due("level ahead of it", y.level(m), TwinPanel.UNKNOWN);
            Due.due("module " + m, y.module(Panels.NOISE, b(m)), m);
        }
        Due.due("module 20", y.module(Panels.NOISE, 0L), TwinPanel.FULL);
        Due.due("count(0)", y.count(0), 20);
        Due.promise(2, "a MODULE has no CORDS, no points, no TIME to FAIL, a START VALUE of 0.0 at first");
        for (int i = 0; i < 6; i++) {
            Due.due("about(19, " + (1 + i) + ")", y.about(19, 1 + i), NONE);
            Due.due("about(19, " + (7 + i) + ")", y.about(19, 7 + i), 0);
        }
        Due.due("about(19, 13)", y.about(19, 13), 0);
        Due.due("about(19, 14)", y.about(19, 14), 0);
        Due.due("lamp(19)", y.lamp(19), NONE);
        y.mode(1);
        Due.due("reading(19)", y.reading(19), 0L);
        Due.promise(2, "a MODULE may come behind a run");
        TwinPanel z = Panels.patched();
        Due.due("module", z.module(Panels.NOISE, b(4.0)), Panels.MODULES);
        Due.due("its lamp", z.lamp(Panels.MODULES), NONE);
        z.begin(Panels.MODULES, b(0.5));
        z.mode(1);
        Due.dueNumber("its reading", z.reading(Panels.MODULES), 0.5);
        Due.dueSingle("its single", z.single(Panels.MODULES), 0.5f);
    }

    private static void cords() {
        Due.promise(3, "INPUTS 0 to 5 of MODULES 0 to 19");
        TwinPanel x = new TwinPanel();
        for (int m = 0; m < 20; m++) {
            x.module(Panels.GATHER, 0L);
        }
        for (int m = 0; m < 20; m += 19) {
            for (int i = 0; i < 6; i++) {
                Due.due("cord(" + m + ", " + i + ", 19)", x.cord(m, i, 19, i % 2 == 0), 1);
                Due.due("about, its other end", x.about(m, 1 + i), 19);
                Due.due("about, TURNED", x.about(m, 7 + i), i % 2 == 0 ? 1 : 0);
            }
        }
        Due.due("count(2)", x.count(2), 12);
        Due.due("a neighbour has none", x.about(1, 1), NONE);
        Due.due("a neighbour has none", x.about(18, 6), NONE);
        Due.promise(3, "from another one, or itself");
        Due.due("cord(19, 0, 19)", x.cord(19, 0, 19, false), 1);
        Due.due("cord(0, 5, 0)", x.cord(0, 5, 0, true), 1);
        Due.due("about(0, 6)", x.about(0, 6), 0);
        Due.promise(3, "a CORD instead of the one that was");
        Due.due("about(19, 7), which was TURNED", x.about(19, 7), 0);
        Due.due("count(2)", x.count(2), 12);
        Due.promise(3, "from is NONE: none");
        for (int i = 0; i < 6; i++) {
            Due.due("cord(0, " + i + ", NONE)", x.cord(0, i, NONE, false), 1);
            Due.due("about(0, " + (1 + i) + ")", x.about(0, 1 + i), NONE);
            Due.due("about(0, " + (7 + i) + ")", x.about(0, 7 + i), 0);
            Due.due("count(2)", x.count(2), 11 - i);
        }
        Due.due("none where none was", x.cord(0, 0, NONE, true), 1);
        Due.due("count(2)", x.count(2), 6);
        Due.due("a CORD of none is not TURNED", x.about(0, 7), 0);
        Due.promise(3, "TURNED, and plain again");
        x.cord(0, 0, 1, true);
        x.begin(1, b(0.5));
        for (int m = 1; m < 19; m++) {
            x.cord(m, 0, 0, false);
        }
        x.mode(1);
        Due.dueNumber("rate(0)", x.rate(0), -0.5);
        x.mode(0);
        x.cord(0, 0, 1, false);
        x.mode(1);
        Due.dueNumber("rate(0)", x.rate(0), 0.5);
    }

    private static TwinPanel table() {
        TwinPanel x = new TwinPanel();
        x.module(Panels.TABLE, 0L);
        return x;
    }

    private static void points() {
        Due.promise(4, "how many it has: 1 to 8");
        TwinPanel x = table();
        for (int i = 1; i <= 8; i++) {
            Due.due("about(0, 13)", x.about(0, 13), i - 1);
            Due.due("point " + i, x.point(0, b(i / 8.0), b(0.5)), i);
        }
        Due.due("point 9", x.point(0, b(1.25), 0L), TwinPanel.FULL);
        Due.due("about(0, 13)", x.about(0, 13), 8);
        Due.promise(4, "x, y of a size of 1.5");
        TwinPanel y = table();
        Due.due("point(-1.5, 1.5)", y.point(0, b(-1.5), b(1.5)), 1);
        Due.due("point(1.5, -1.5)", y.point(0, b(1.5), b(-1.5)), 2);
        Due.promise(4, "the first x may be any; the next is above the latest, also as a float");
        double[] latest = {-1.5, -1.0, 0.0, 0.5, 1.0};
        for (double v : latest) {
            float next = Math.nextUp((float) v);
            double mid = (v + next) / 2.0;
            TwinPanel z = table();
            Due.due("point(" + v + ")", z.point(0, b(v), 0L), 1);
            Due.due("the next double", z.point(0, b(Math.nextUp(v)), 0L), TwinPanel.OUTSIDE);
            Due.due("half way, to the even float", z.point(0, b(mid), 0L), TwinPanel.OUTSIDE);
            if (v != 0.0) {
                Due.due("just above half way", z.point(0, b(Math.nextUp(mid)), 0L), 2);
            } else {
                Due.due("the next float", z.point(0, b(next), 0L), 2);
            }
        }
        Due.promise(4, "x is not above: 0.0 and -0.0");
        TwinPanel w = table();
        Due.due("point(-0.0)", w.point(0, b(-0.0), 0L), 1);
        Due.due("point(0.0)", w.point(0, b(0.0), 0L), TwinPanel.OUTSIDE);
        Due.promise(4, "x as floats: a latest x that is rounded up");
        TwinPanel v = table();
        double low = Math.nextUp(1.0 + 0x1.0p-24);
        Due.due("point", v.point(0, b(low), 0L), 1);
        Due.due("the float that it is rounded to", v.point(0, b(1.0 + 0x1.0p-23), 0L), TwinPanel.OUTSIDE);
        Due.due("the next float", v.point(0, b(1.0 + 0x1.0p-22), 0L), 2);
        Due.promise(4, "each TABLE has points of its own");
        TwinPanel two = table();
        two.module(Panels.TABLE, 0L);
        two.point(0, b(1.0), 0L);
        Due.due("point of the other", two.point(1, b(-1.0), 0L), 1);
        Due.due("about(0, 13)", two.about(0, 13), 1);
    }

    private static void begins() {
        Due.promise(5, "its size is 1.5 at most, of what remembers");
        int[] kinds = {Panels.GATHER, Panels.TRACK, Panels.DELAY, Panels.NOISE};
        double[] values = {1.5, -1.5, Math.nextDown(1.5), -Math.nextDown(1.5), Double.MIN_VALUE, 0.0};
        for (int kind : kinds) {
            for (double v : values) {
                TwinPanel x = new TwinPanel();
                x.module(kind, Panels.settingOf(kind));
                x.cord(0, 0, 0, false);
                x.cord(0, 1, 0, false);
                Due.due("begin of kind " + kind + ", " + v, x.begin(0, b(v)), 1);
                Due.due("mode(1)", x.mode(1), 0);
                Due.dueNumber("its reading", x.reading(0), v);
                Due.due("its lamp", x.lamp(0), NONE);
            }
        }
        Due.promise(5, "OUTSIDE: it does not remember, each KIND that does not");
        for (int kind = 0; kind < 14; kind++) {
            boolean remembers = kind == 2 || kind == 3 || kind == 11 || kind == 13;
            TwinPanel x = new TwinPanel();
            x.module(kind, Panels.settingOf(kind));
            Due.due("begin of kind " + kind, x.begin(0, b(0.5)), remembers ? 1 : TwinPanel.OUTSIDE);
        }
        Due.promise(5, "the latest START VALUE, from the next START on");
        TwinPanel y = Panels.noises(0.25);
        y.begin(0, b(0.5));
        y.mode(1);
        Due.dueNumber("reading(0)", y.reading(0), 0.5);
    }

    private static void settings() {
        Due.promise(6, "to the last that may be, of each KIND");
        for (int kind = 0; kind < 14; kind++) {
            for (double s : ends(kind)) {
                TwinPanel x = new TwinPanel();
                x.module(kind, Panels.settingOf(kind));
                TwinPanel made = new TwinPanel();
                made.module(kind, b(s));
                Due.due("setting of kind " + kind + ", " + s, x.setting(0, b(s)), 1);
                Due.due("digest(), as if it were made so", x.digest(), made.digest());
            }
        }
        Due.promise(6, "its SETTING, which the next START goes by");
        TwinPanel x = Panels.fed(Panels.PART, 0.5, 1.0);
        x.module(Panels.LIMIT, b(1.5));
        x.cord(2, 0, 0, false);
        x.mode(1);
        x.mode(0);
        x.setting(1, b(-1.0));
        x.setting(2, 0L);
        x.mode(1);
        Due.dueNumber("reading of a part", x.reading(1), -1.0);
        Due.dueNumber("reading of a limit", x.reading(2), 0.0);
    }

    private static void rules() {
        Due.promise(7, "The RULE (0 to 2), and k (1 to 20)");
        TwinPanel x = new TwinPanel();
        for (int rule = 0; rule <= 2; rule++) {
            for (int k = 1; k <= 20; k++) {
                Due.due("rule(" + rule + ", " + k + ")", x.rule(rule, k), 1);
                Due.due("count(6)", x.count(6), rule);
                Due.due("count(7)", x.count(7), k);
            }
        }
        Due.promise(7, "a STEP of length t (2 to the -k)");
        for (int rule = 0; rule <= 2; rule++) {
            for (int k = 1; k <= 20; k++) {
                TwinPanel y = Panels.noises(1.0);
                y.module(Panels.GATHER, 0L);
                y.cord(1, 0, 0, false);
                y.rule(rule, k);
                y.mode(1);
                y.run(1);
                double t = 1.0 / (1 << k);
                Due.dueNumber("one step by rule " + rule + ", " + k, y.reading(1), t);
                Due.dueSingle("in floats", y.single(1), (float) t);
            }
        }
        Due.promise(7, "RULE 0, k 4 of a new object is what it goes by");
        TwinPanel z = Panels.noises(1.0);
        z.module(Panels.GATHER, 0L);
        z.cord(1, 0, 1, true);
        z.begin(1, b(1.0));
        z.mode(1);
        z.run(1);
        Due.dueNumber("one step", z.reading(1), 0.9375);
    }

    private static void checks() {
        Due.promise(8, "0: all is right, of no MODULES and of one");
        Due.due("check() of none", new TwinPanel().check(), 0);
        Due.due("check() of a noise", Panels.noises(0.0).check(), 0);
        Due.promise(8, "1 more than the least MODULE, 0 to 19");
        for (int at = 0; at < 20; at++) {
            TwinPanel x = new TwinPanel();
            for (int m = 0; m < 20; m++) {
                x.module(m >= at ? Panels.TURN : Panels.NOISE, 0L);
            }
            Due.due("check(), the least is " + at, x.check(), at + 1);
            Due.due("broken()", x.broken(), 1);
        }
        Due.promise(8, "1: it has not the INPUTS that it needs, of each KIND");
        int[][] needed = {{}, {0}, {}, {0, 1}, {0, 1}, {0, 1}, {0}, {0}, {0, 1}, {0, 1, 2}, {0}, {0}, {0}, {}};
        for (int kind = 0; kind < 14; kind++) {
            neededInputs(kind, needed[kind]);
        }
        Due.promise(8, "2: it is a TABLE with fewer than 2 points");
        TwinPanel t = Panels.fed(Panels.TABLE, 0.0, 0.5);
        for (int points = 0; points <= 3; points++) {
            Due.due("check() with " + points + " points", t.check(), points < 2 ? 2 : 0);
            Due.due("broken() with " + points + " points", t.broken(), points < 2 ? 2 : 0);
            t.point(1, b(points / 8.0), 0L);
        }
        Due.promise(8, "the first rule that is broken, not the least MODULE of all");
        TwinPanel x = new TwinPanel();
        x.module(Panels.TURN, 0L);
        x.module(Panels.TABLE, 0L);
        x.module(Panels.SUM, 0L);
        x.cord(0, 0, 0, false);
        x.cord(1, 0, 0, false);
        Due.due("check(): 2 has no input", x.check(), 3);
        x.cord(2, 0, 0, false);
        Due.due("check(): 1 has no points", x.check(), 2);
        x.point(1, 0L, 0L);
        x.point(1, b(0.5), 0L);
        Due.due("check(): 0 is a circle", x.check(), 1);
        Due.due("broken()", x.broken(), 3);
    }

    /** All inputs but one are tied: it is right, but where that one is needed; with that one it is right. */
    private static void neededInputs(int kind, int[] needed) {
        for (int missing = 0; missing < 6; missing++) {
            TwinPanel x = new TwinPanel();
            x.module(Panels.NOISE, 0L);
            x.module(kind, Panels.settingOf(kind));
            x.point(1, 0L, 0L);
            x.point(1, b(1.0), 0L);
            boolean isNeeded = false;
            for (int i = 0; i < 6; i++) {
                x.cord(1, i, i == missing ? NONE : 0, false);
            }
            for (int i : needed) {
                isNeeded |= i == missing;
            }
            Due.due("check() of kind " + kind + " without input " + missing, x.check(), isNeeded ? 2 : 0);
            Due.due("broken()", x.broken(), isNeeded ? 1 : 0);
            x.cord(1, missing, 0, false);
            Due.due("check() of kind " + kind + " with all", x.check(), 0);
        }
        TwinPanel bare = new TwinPanel();
        bare.module(Panels.NOISE, 0L);
        bare.module(kind, Panels.settingOf(kind));
        bare.point(1, 0L, 0L);
        bare.point(1, b(1.0), 0L);
        Due.due("check() of kind " + kind + " without any", bare.check(), kind == Panels.NOISE ? 0 : 2);
        for (int i : needed) {
            bare.cord(1, i, 0, false);
        }
        if (needed.length == 0) {
            bare.cord(1, 5, 0, false);
        }
        Due.due("check() of kind " + kind + " with what it needs", bare.check(), 0);
    }

    private static void circles() {
        Due.promise(8, "3: a circle of CORDS of one MODULE");
        for (int kind = 0; kind < 14; kind++) {
            TwinPanel x = new TwinPanel();
            x.module(kind, Panels.settingOf(kind));
            x.point(0, 0L, 0L);
            x.point(0, b(1.0), 0L);
            for (int i = 0; i < 3; i++) {
                x.cord(0, i, 0, false);
            }
            boolean remembers = kind == 2 || kind == 3 || kind == 11 || kind == 13;
            Due.due("check() of kind " + kind + " with itself", x.check(), remembers ? 0 : 1);
            Due.due("broken()", x.broken(), remembers ? 0 : 3);
            Due.due("level(0)", x.level(0), remembers ? 0 : NONE);
        }
        Due.promise(8, "3: a circle of 2 to 20 MODULES, and one in which one remembers");
        for (int n = 2; n <= 20; n++) {
            TwinPanel x = new TwinPanel();
            for (int m = 0; m < n; m++) {
                x.module(Panels.SUM, 0L);
            }
            for (int m = 0; m < n; m++) {
                x.cord(m, m % 6, (m + 1) % n, false);
            }
            Due.due("check() of a circle of " + n, x.check(), 1);
            Due.due("broken()", x.broken(), 3);
            Due.due("mode(1)", x.mode(1), TwinPanel.STATE);
            TwinPanel y = new TwinPanel();
            for (int m = 0; m < n; m++) {
                y.module(m == n / 2 ? Panels.GATHER : Panels.SUM, 0L);
            }
            for (int m = 0; m < n; m++) {
                y.cord(m, m % 6, (m + 1) % n, false);
            }
            Due.due("check() of a circle of " + n + ", one remembers", y.check(), 0);
            Due.due("mode(1)", y.mode(1), 0);
        }
        Due.promise(8, "3: goes through it, not: leads to it or comes from it");
        TwinPanel z = new TwinPanel();
        z.module(Panels.NOISE, 0L);
        for (int m = 1; m < 6; m++) {
            z.module(Panels.SUM, 0L);
        }
        z.cord(1, 0, 4, false);
        z.cord(2, 0, 0, false);
        z.cord(3, 0, 2, false);
        z.cord(3, 1, 4, false);
        z.cord(4, 0, 3, false);
        z.cord(5, 0, 1, false);
        Due.due("check(): 3 and 4 go round", z.check(), 4);
        Due.promise(8, "3: and through none that remembers, though another circle leads to it");
        TwinPanel w = new TwinPanel();
        w.module(Panels.SUM, 0L);
        w.module(Panels.GATHER, 0L);
        w.module(Panels.SUM, 0L);
        w.cord(0, 0, 1, false);
        w.cord(0, 1, 2, false);
        w.cord(1, 0, 0, false);
        w.cord(2, 0, 2, false);
        Due.due("check(): 2 goes round, 0 by a gather alone", w.check(), 3);
    }

    private static void brokenRules() {
        Due.promise(9, "0: none, ahead of any check()");
        TwinPanel x = new TwinPanel();
        Due.due("broken()", x.broken(), 0);
        x.module(Panels.SUM, 0L);
        Due.due("broken() with a rule broken, not looked at", x.broken(), 0);
        Due.promise(9, "Which rule the latest check() found broken");
        for (int rule = 1; rule <= 3; rule++) {
            TwinPanel y = Panels.breaking(rule);
            Due.due("check()", y.check(), 2);
            Due.due("broken()", y.broken(), rule);
        }
        Due.promise(9, "the latest check() alone: patching and mode() do not change it");
        x.check();
        x.cord(0, 0, 0, false);
        Due.due("broken() behind a cord", x.broken(), 1);
        Due.due("mode(1)", x.mode(1), TwinPanel.STATE);
        Due.due("broken() behind a refused mode(1)", x.broken(), 1);
        x.check();
        Due.due("broken()", x.broken(), 3);
        x.cord(0, 0, NONE, false);
        x.module(Panels.NOISE, 0L);
        x.cord(0, 0, 1, false);
        Due.due("mode(1)", x.mode(1), 0);
        Due.due("broken() behind mode(1)", x.broken(), 3);
        Due.due("check()", x.check(), 0);
        Due.due("broken() in START", x.broken(), 0);
    }

    private static void levels() {
        Due.promise(10, "0 of what remembers, 1 without CORDS");
        for (int kind = 0; kind < 14; kind++) {
            TwinPanel x = new TwinPanel();
            x.module(kind, Panels.settingOf(kind));
            boolean remembers = kind == 2 || kind == 3 || kind == 11 || kind == 13;
            Due.due("level of kind " + kind, x.level(0), remembers ? 0 : 1);
            Due.due("count(3)", x.count(3), remembers ? 0 : 1);
            x.module(Panels.SUM, 0L);
            x.cord(0, 0, 1, false);
            Due.due("level of kind " + kind + " behind a sum", x.level(0), remembers ? 0 : 2);
        }
        TwinPanel w = new TwinPanel();
        for (int m = 0; m < 20; m++) {
            w.module(Panels.SUM, 0L);
            Due.due("level(" + m + ") of the latest module", w.level(m), 1);
        }
        Due.promise(10, "1 more than the greatest one at the other ends of its CORDS, up to 20");
        TwinPanel y = new TwinPanel();
        for (int m = 0; m < 20; m++) {
            y.module(Panels.SUM, 0L);
            for (int i = 0; i < 6 && i < m; i++) {
                y.cord(m, i, m - 1 - i, false);
            }
            Due.due("level(" + m + ")", y.level(m), m + 1);
            Due.due("count(3)", y.count(3), m + 1);
        }
        Due.promise(10, "the greatest one, whichever INPUT it is at");
        for (int input = 0; input < 6; input++) {
            TwinPanel z = new TwinPanel();
            for (int m = 0; m < 4; m++) {
                z.module(Panels.SUM, 0L);
            }
            z.cord(1, 0, 0, false);
            z.cord(2, 0, 1, false);
            for (int i = 0; i < 6; i++) {
                z.cord(3, i, i == input ? 2 : 0, false);
            }
            Due.due("level(3)", z.level(3), 4);
        }
        Due.promise(10, "NONE: a circle goes through it, or leads to it");
        TwinPanel c = new TwinPanel();
        for (int m = 0; m < 5; m++) {
            c.module(m == 4 ? Panels.DELAY : Panels.SUM, m == 4 ? b(1.0) : 0L);
        }
        c.cord(0, 0, 0, false);
        c.cord(1, 5, 0, false);
        c.cord(2, 0, 1, false);
        c.cord(0, 1, 3, false);
        c.cord(4, 0, 2, false);
        int[] due = {NONE, NONE, NONE, 1, 0};
        for (int m = 0; m < 5; m++) {
            Due.due("level(" + m + ")", c.level(m), due[m]);
        }
        Due.due("count(3), of those that have one", c.count(3), 1);
    }

    public static void main(String[] args) {
        newObject();
        modules();
        cords();
        points();
        begins();
        settings();
        rules();
        checks();
        circles();
        brokenRules();
        levels();
        Due.endOf(1, 10);
    }
}
