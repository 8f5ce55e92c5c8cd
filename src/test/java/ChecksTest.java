/** Promises 8 to 10: check, broken, level. */
public final class ChecksTest {
    private static final int SUM = 0, TURN = 1, GATHER = 2, TABLE = 7, DELAY = 11, NOISE = 13;

    private static long settingOf(int kind) {
        return kind == DELAY ? Due.bits(2.0) : 0L;
    }

    /** A module of each kind, tied at some inputs to a noise: is it right? */
    private static void neededInputs() {
        int[] needed = {-1, 1, -1, 3, 3, 3, 1, 1, 3, 7, 1, 1, 1, 0};
        for (int kind = 0; kind < 14; kind++) {
            for (int mask = 0; mask < 64; mask++) {
                TwinPanel x = new TwinPanel();
                x.module(NOISE, 0L);
                x.module(kind, settingOf(kind));
                if (kind == TABLE) {
                    x.point(1, 0L, 0L);
                    x.point(1, Due.bits(1.0), 0L);
                }
                for (int i = 0; i < 6; i++) {
                    if ((mask >> i & 1) != 0) {
                        x.cord(1, i, 0, false);
                    }
                }
                boolean isRight = needed[kind] == -1 ? mask != 0 : (mask & needed[kind]) == needed[kind];
                String what = "kind " + kind + ", cords " + mask;
                Due.due("check() of " + what, x.check(), isRight ? 0 : 2);
                Due.due("broken() of " + what, x.broken(), isRight ? 0 : 1);
                Due.due("mode(1) of " + what, x.mode(1), isRight ? 0 : TwinPanel.STATE);
            }
        }
    }

    private static void firstRuleFirst() {
        TwinPanel x = new TwinPanel();
        x.module(SUM, 0L);
        x.module(SUM, 0L);
        x.module(TABLE, 0L);
        x.module(TURN, 0L);
        x.module(TURN, 0L);
        x.cord(0, 0, 0, false);
        x.cord(1, 0, 1, false);
        x.cord(2, 0, 0, false);
        Due.due("broken() ahead of check()", x.broken(), 0);
        Due.due("mode(1)", x.mode(1), TwinPanel.STATE);
        Due.due("broken() goes by check() alone", x.broken(), 0);
        Due.due("check(): inputs first", x.check(), 4);
        Due.due("broken(): inputs", x.broken(), 1);
        x.cord(3, 0, 0, false);
        x.cord(4, 0, 0, false);
        Due.due("broken() till the next check()", x.broken(), 1);
        Due.due("check(): then points", x.check(), 3);
        Due.due("broken(): points", x.broken(), 2);
        x.point(2, 0L, 0L);
        Due.due("check(): one point", x.check(), 3);
        x.point(2, Due.bits(0.5), 0L);
        Due.due("check(): then circles", x.check(), 1);
        Due.due("broken(): circles", x.broken(), 3);
        x.module(NOISE, 0L);
        x.cord(0, 0, 5, false);
        Due.due("check(): the next circle", x.check(), 2);
        x.cord(1, 0, 5, false);
        Due.due("broken() is as the latest check() found", x.broken(), 3);
        Due.due("mode(1) of what is right", x.mode(1), 0);
        Due.due("broken() behind mode(1)", x.broken(), 3);
        Due.due("check() in START", x.check(), 0);
        Due.due("broken() behind check()", x.broken(), 0);
    }

    /** 0 is led to by a circle of 2, 3, 4; 1 leads to it. */
    private static void circlesAndWhatTheyLeadTo() {
        TwinPanel x = new TwinPanel();
        for (int m = 0; m < 5; m++) {
            x.module(SUM, 0L);
        }
        x.module(GATHER, 0L);
        x.module(SUM, 0L);
        x.cord(0, 4, 3, false);
        x.cord(1, 0, 5, false);
        x.cord(2, 0, 1, false);
        x.cord(2, 1, 4, false);
        x.cord(3, 5, 2, false);
        x.cord(4, 2, 3, true);
        x.cord(5, 0, 0, false);
        x.cord(6, 0, 5, false);
        int[] levels = {-1, 1, -1, -1, -1, 0, 1};
        for (int m = 0; m < levels.length; m++) {
            Due.due("level(" + m + ")", x.level(m), levels[m]);
        }
        Due.due("level(-1)", x.level(-1), TwinPanel.UNKNOWN);
        Due.due("level(7)", x.level(7), TwinPanel.UNKNOWN);
        Due.due("the greatest level of those that have one", x.count(3), 1);
        Due.due("check(): the least on the circle, not behind it", x.check(), 3);
        Due.due("broken()", x.broken(), 3);
        x.cord(4, 2, 5, false);
        int[] then = {4, 1, 2, 3, 1, 0, 1};
        for (int m = 0; m < then.length; m++) {
            Due.due("level(" + m + ") then", x.level(m), then[m]);
        }
        Due.due("count(3) then", x.count(3), 4);
        Due.due("check() then", x.check(), 0);
    }

    private static void longestChain() {
        TwinPanel x = new TwinPanel();
        for (int m = 0; m < 20; m++) {
            x.module(SUM, 0L);
        }
        for (int m = 0; m < 19; m++) {
            x.cord(m, m % 6, m + 1, false);
        }
        for (int m = 0; m < 20; m++) {
            Due.due("level of " + m + " in a chain", x.level(m), 20 - m);
        }
        Due.due("count(3)", x.count(3), 20);
        Due.due("check(): the end has no cord", x.check(), 20);
        x.cord(19, 0, 0, false);
        Due.due("level() in one great circle", x.level(7), TwinPanel.NONE);
        Due.due("count(3) in one great circle", x.count(3), 0);
        Due.due("check() of one great circle", x.check(), 1);
        Due.due("broken()", x.broken(), 3);
    }

    /** A cord that a kind does not need counts for levels and circles all the same. */
    private static void cordsThatAreNotNeeded() {
        TwinPanel x = new TwinPanel();
        x.module(NOISE, 0L);
        x.module(TURN, 0L);
        x.module(TURN, 0L);
        x.cord(1, 0, 0, false);
        x.cord(2, 0, 0, false);
        x.cord(2, 5, 1, false);
        Due.due("level with a cord not needed", x.level(2), 2);
        x.cord(1, 3, 2, false);
        Due.due("level in a circle by cords not needed", x.level(2), TwinPanel.NONE);
        Due.due("check()", x.check(), 2);
        x.cord(0, 1, 0, false);
        Due.due("level of a noise with a cord", x.level(0), 0);
    }

    public static void main(String[] args) {
        neededInputs();
        firstRuleFirst();
        circlesAndWhatTheyLeadTo();
        longestChain();
        cordsThatAreNotNeeded();
        Due.end();
    }
}
