import java.io.IOException;

/** Promises 1 to 10: each sentence, in its words, with what holds it to them. */
public final class SentencesOfPatchingTest {
    private static final int NONE = TwinPanel.NONE, UNKNOWN = TwinPanel.UNKNOWN, OUTSIDE = TwinPanel.OUTSIDE,
        STATE = TwinPanel.STATE, FULL = TwinPanel.FULL;

    private static long b(double v) {
        return Due.bits(v);
    }

    private static void newObject() {
        Sentences.promise(1, "No MODULES; PATCH; RULE 0, k 4.");
        TwinPanel x = new TwinPanel();
        Due.due("count(0)", x.count(0), 0);
        Due.due("now()", x.now(), 0);
        Due.due("count(6)", x.count(6), 0);
        Due.due("count(7)", x.count(7), 4);
        Due.due("digest()", x.digest(), 47L * 31L * 31L);
        x.module(Panels.GATHER, 0L);
        x.cord(0, 0, 0, true);
        x.begin(0, b(1.0));
        x.mode(1);
        x.run(1);
        Due.dueNumber("a step by RULE 0, k 4", x.reading(0), 1.0 - 1.0 / 16.0);
    }

    private static void module() {
        Sentences.promise(2, "A MODULE: its number.");
        TwinPanel x = new TwinPanel();
        for (int kind = 0; kind < 14; kind++) {
            Due.due("module(" + kind + ")", x.module(kind, Panels.settingOf(kind)), kind);
            Due.due("count(0)", x.count(0), kind + 1);
            Due.due("about(" + kind + ", 0)", x.about(kind, 0), kind);
        }
        Sentences.promise(2, "OUTSIDE: KIND, SETTING; STATE; FULL.");
        Told.leaves("module(14, 0.0)", OUTSIDE, Panels::fullHeld, y -> y.module(14, 0L));
        Told.leaves("module(-1, 0.0)", OUTSIDE, Panels::fullHeld, y -> y.module(-1, 0L));
        Told.leaves("module(PART, 1.25)", OUTSIDE, Panels::fullHeld, y -> y.module(Panels.PART, b(1.25)));
        Told.leaves("module(SUM, 0.0)", STATE, Panels::fullHeld, y -> y.module(Panels.SUM, 0L));
        Told.leaves("module(SUM, 0.0)", FULL, Panels::fullPatched, y -> y.module(Panels.SUM, 0L));
    }

    private static void cord() {
        Sentences.promise(3, "An INPUT of a MODULE gets a CORD from another one, or itself (from is NONE: none): 1.");
        TwinPanel x = Panels.noises(0.5, 0.25);
        x.module(Panels.GATHER, 0L);
        Due.due("cord from another one", x.cord(2, 3, 1, true), 1);
        Due.due("about(2, 4)", x.about(2, 4), 1);
        Due.due("about(2, 10)", x.about(2, 10), 1);
        Due.due("cord from itself", x.cord(2, 3, 2, false), 1);
        Due.due("about(2, 4)", x.about(2, 4), 2);
        Due.due("about(2, 10)", x.about(2, 10), 0);
        Due.due("count(2)", x.count(2), 1);
        Due.due("no cord", x.cord(2, 3, NONE, true), 1);
        Due.due("about(2, 4)", x.about(2, 4), NONE);
        Due.due("about(2, 10)", x.about(2, 10), 0);
        Due.due("count(2)", x.count(2), 0);
        Due.due("no cord where there is none", x.cord(2, 3, NONE, false), 1);
        Sentences.promise(3, "UNKNOWN: m, from; OUTSIDE: INPUT; STATE.");
        Told.leaves("cord(9, 6, 0)", UNKNOWN, Panels::held, y -> y.cord(9, 6, 0, false));
        Told.leaves("cord(-1, 6, 0)", UNKNOWN, Panels::held, y -> y.cord(-1, 6, 0, false));
        Told.leaves("cord(1, 6, 9)", UNKNOWN, Panels::held, y -> y.cord(1, 6, 9, false));
        Told.leaves("cord(1, 6, -2)", UNKNOWN, Panels::held, y -> y.cord(1, 6, -2, false));
        Told.leaves("cord(1, 6, 0)", OUTSIDE, Panels::held, y -> y.cord(1, 6, 0, false));
        Told.leaves("cord(1, -1, NONE)", OUTSIDE, Panels::held, y -> y.cord(1, -1, NONE, false));
        Told.leaves("cord(1, 5, 0)", STATE, Panels::held, y -> y.cord(1, 5, 0, false));
        Told.leaves("cord(1, 5, 0)", STATE, Panels::started, y -> y.cord(1, 5, 0, false));
    }

    private static void point() {
        int t = Panels.TABLE_AT;
        Sentences.promise(4, "A point comes to a TABLE: how many it has.");
        TwinPanel x = Panels.fed(Panels.TABLE, 0.0, 0.25);
        for (int i = 0; i < 8; i++) {
            Due.due("point", x.point(1, b(i / 8.0), b(-i / 8.0)), i + 1);
            Due.due("about(1, 13)", x.about(1, 13), i + 1);
        }
        Kinds.reads("the table", x, 1, -0.25, -0.25f, NONE);
        Sentences.promise(4, "UNKNOWN; OUTSIDE: it is no TABLE, x, y of a size above 1.5, x is not above the latest "
            + "point's (also as floats); STATE; FULL.");
        Told.leaves("point of none", UNKNOWN, Panels::held, y -> y.point(9, b(2.0), 0L));
        Told.leaves("point of a part", OUTSIDE, Panels::held, y -> y.point(Panels.PART_AT, b(1.0), 0L));
        Told.leaves("x 1.75", OUTSIDE, Panels::held, y -> y.point(t, b(1.75), 0L));
        Told.leaves("y -1.75", OUTSIDE, Panels::held, y -> y.point(t, b(1.0), b(-1.75)));
        Told.leaves("x of the latest", OUTSIDE, Panels::held, y -> y.point(t, b(0.5), 0L));
        Told.leaves("x below the latest", OUTSIDE, Panels::held, y -> y.point(t, b(0.25), 0L));
        Told.leaves("x above the latest, not as floats", OUTSIDE, Panels::held,
            y -> y.point(t, b(Math.nextUp(0.5)), 0L));
        Told.leaves("x 1.5 in HOLD", STATE, Panels::fullHeld, y -> y.point(t, b(1.5), 0L));
        Told.leaves("x 1.5, the ninth", FULL, Panels::fullPatched, y -> y.point(t, b(1.5), 0L));
    }

    private static void begin() {
        Sentences.promise(5, "Its START VALUE: 1.");
        for (int kind : new int[] {Panels.GATHER, Panels.TRACK, Panels.DELAY, Panels.NOISE}) {
            TwinPanel x = Panels.fed(kind, kind == Panels.DELAY ? 2.0 : 0.0, 0.5, 0.25);
            Due.due("begin of kind " + kind, x.begin(2, b(-0.7)), 1);
            Kinds.reads("kind " + kind, x, 2, -0.7, -0.7f, NONE);
        }
        Sentences.promise(5, "UNKNOWN; OUTSIDE: its size is above 1.5, or it does not remember; STATE.");
        Told.leaves("begin of none", UNKNOWN, Panels::held, y -> y.begin(9, b(2.0)));
        Told.leaves("begin(1, 1.75)", OUTSIDE, Panels::held, y -> y.begin(1, b(1.75)));
        Told.leaves("begin(1, -1.75)", OUTSIDE, Panels::held, y -> y.begin(1, b(-1.75)));
        Told.leaves("begin of a part", OUTSIDE, Panels::held, y -> y.begin(Panels.PART_AT, b(0.5)));
        Told.leaves("begin(1, 1.5) in HOLD", STATE, Panels::held, y -> y.begin(1, b(1.5)));
        Told.leaves("begin(1, 1.5) at START", STATE, Panels::started, y -> y.begin(1, b(1.5)));
    }

    private static void setting() {
        Sentences.promise(6, "Its SETTING: 1.");
        TwinPanel x = Panels.fed(Panels.PART, 0.5, 0.75);
        Due.due("setting(1, -0.25)", x.setting(1, b(-0.25)), 1);
        Kinds.reads("the part", x, 1, -0.1875, -0.1875f, NONE);
        Sentences.promise(6, "UNKNOWN; OUTSIDE; STATE.");
        Told.leaves("setting of none", UNKNOWN, Panels::held, y -> y.setting(9, b(0.5)));
        Told.leaves("setting of a part, 1.25", OUTSIDE, Panels::held, y -> y.setting(Panels.PART_AT, b(1.25)));
        Told.leaves("setting of a sum, 0.5", OUTSIDE, Panels::held, y -> y.setting(Panels.SUM_AT, b(0.5)));
        Told.leaves("setting of a part in HOLD", STATE, Panels::held, y -> y.setting(Panels.PART_AT, b(0.25)));
        Told.leaves("setting of a part at START", STATE, Panels::started, y -> y.setting(Panels.PART_AT, b(0.25)));
    }

    private static void rule() {
        Sentences.promise(7, "The RULE (0 to 2), and k (1 to 20): 1.");
        for (int rule = 0; rule <= 2; rule++) {
            for (int k = 1; k <= 20; k++) {
                TwinPanel x = new TwinPanel();
                Due.due("rule(" + rule + ", " + k + ")", x.rule(rule, k), 1);
                Due.due("count(6)", x.count(6), rule);
                Due.due("count(7)", x.count(7), k);
            }
        }
        Sentences.promise(7, "OUTSIDE; STATE.");
        Told.leaves("rule(3, 1)", OUTSIDE, Panels::held, y -> y.rule(3, 1));
        Told.leaves("rule(-1, 1)", OUTSIDE, Panels::held, y -> y.rule(-1, 1));
        Told.leaves("rule(0, 0)", OUTSIDE, Panels::held, y -> y.rule(0, 0));
        Told.leaves("rule(0, 21)", OUTSIDE, Panels::patched, y -> y.rule(0, 21));
        Told.leaves("rule(0, 1) in HOLD", STATE, Panels::held, y -> y.rule(0, 1));
        Told.leaves("rule(0, 1) at START", STATE, Panels::started, y -> y.rule(0, 1));
    }

    private static void looked(TwinPanel x, int check, int broken) {
        Due.due("check()", x.check(), check);
        Due.due("broken()", x.broken(), broken);
    }

    /** 0 a noise, 1 and 2 on a circle, 3 a table of one point, 4 a sum without cords, 5 and 6 sums of what is right. */
    private static TwinPanel wrong() {
        TwinPanel x = Panels.noises(0.5);
        int[] kinds = {Panels.TURN, Panels.SUM, Panels.TABLE, Panels.SUM, Panels.SUM, Panels.SUM};
        for (int kind : kinds) {
            x.module(kind, 0L);
        }
        x.cord(1, 0, 2, false);
        x.cord(2, 5, 1, false);
        x.cord(3, 0, 0, false);
        x.point(3, 0L, 0L);
        x.cord(5, 0, 0, false);
        x.cord(6, 0, 0, false);
        return x;
    }

    private static void check() {
        Sentences.promise(8, "0: all is right; else 1 more than the least MODULE that breaks the first rule that is "
            + "broken:");
        looked(new TwinPanel(), 0, 0);
        looked(Panels.fed(Panels.SUM, 0.0, 0.5), 0, 0);
        Sentences.promise(8, "1: it has not the INPUTS that it needs;");
        TwinPanel x = wrong();
        looked(x, 5, 1);
        x.cord(6, 0, NONE, false);
        looked(x, 5, 1);
        x.cord(4, 2, 0, false);
        looked(x, 7, 1);
        x.cord(6, 0, 0, false);
        Sentences.promise(8, "2: it is a TABLE with fewer than 2 points;");
        looked(x, 4, 2);
        x.point(3, b(1.0), 0L);
        Sentences.promise(8, "3: a circle of CORDS goes through it, and through none that remembers.");
        looked(x, 2, 3);
        x.cord(0, 0, 1, false);
        x.cord(2, 5, 0, false);
        looked(x, 0, 0);
        x.cord(5, 1, 5, true);
        looked(x, 6, 3);
        Sentences.promise(9, "Which rule the latest check() found broken; 0: none.");
        x.cord(5, 1, NONE, false);
        Due.due("broken() till the next check()", x.broken(), 3);
        looked(x, 0, 0);
        x.cord(5, 0, NONE, false);
        Due.due("broken() till the next check()", x.broken(), 0);
        Due.due("broken() of a new object", new TwinPanel().broken(), 0);
    }

    private static void level() {
        Sentences.promise(10, "Its LEVEL; NONE: there is none (a circle, without any that remembers, goes through it, "
            + "or leads to it).");
        TwinPanel x = wrong();
        x.cord(5, 1, 6, false);
        x.cord(4, 0, 2, false);
        int[] due = {0, NONE, NONE, 1, NONE, 2, 1};
        for (int m = 0; m < due.length; m++) {
            Due.due("level(" + m + ")", x.level(m), due[m]);
        }
        x.module(Panels.GATHER, 0L);
        x.cord(7, 0, 4, false);
        x.cord(1, 0, 7, false);
        int[] then = {0, 1, 2, 1, 3, 2, 1, 0};
        for (int m = 0; m < then.length; m++) {
            Due.due("level(" + m + ") with one that remembers", x.level(m), then[m]);
        }
        Sentences.promise(10, "UNKNOWN.");
        Told.leaves("level(9)", UNKNOWN, Panels::held, y -> y.level(9));
        Told.leaves("level(-1)", UNKNOWN, Panels::patched, y -> y.level(-1));
    }

    public static void main(String[] args) throws IOException {
        newObject();
        module();
        cord();
        point();
        begin();
        setting();
        rule();
        check();
        level();
        Sentences.areAllFrom("## Promise 1: A new object", "## Promise 11: mode");
        Due.endOf(1, 10);
    }
}
