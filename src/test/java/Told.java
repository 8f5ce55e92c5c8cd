import java.util.function.Supplier;
import java.util.function.ToLongFunction;

/** All that a panel tells, and how it goes on, as texts: two panels with the same texts are taken as the same. */
final class Told {
    private Told() {
    }

    /** What it tells now. digest() has kinds, settings, cords, start values, readings, singles, samples. */
    static String now(TwinPanel x) {
        StringBuilder all = new StringBuilder();
        all.append("now ").append(x.now()).append(" time ").append(x.time());
        all.append(" digest ").append(x.digest()).append(" broken ").append(x.broken()).append(" counts");
        for (int what = 0; what < 8; what++) {
            all.append(' ').append(x.count(what));
        }
        for (int m = 0; m < x.count(0); m++) {
            all.append(" | ").append(x.about(m, 13)).append(' ').append(x.about(m, 14)).append(' ').append(x.lamp(m));
            all.append(' ').append(x.apart(m)).append(' ').append(x.rate(m)).append(' ').append(x.level(m));
        }
        all.append(" strips");
        for (int s = 0; s < x.count(1); s++) {
            all.append(' ').append(x.samples(s));
        }
        all.append(" swept");
        for (int j = 0; j < 6; j++) {
            all.append(' ').append(x.swept(j));
        }
        return all.toString();
    }

    /** How it goes on: states, rows, seeds and points that are not told show in what is read later. */
    static String later(TwinPanel x) {
        StringBuilder all = new StringBuilder();
        int size = x.count(0);
        all.append("run ").append(x.run(2)).append(" digest ").append(x.digest());
        all.append(" mode ").append(x.mode(1)).append(" run ").append(x.run(5)).append(" digest ").append(x.digest());
        if (size > 1) {
            all.append(" halved ").append(x.halved(1, 3));
        }
        for (int m = 0; m < size; m++) {
            all.append(' ').append(x.lamp(m)).append(' ').append(x.rate(m));
        }
        all.append(" run ").append(x.run(10));
        all.append(" mode ").append(x.mode(0)).append(" check ").append(x.check());
        all.append(" module ").append(x.module(0, 0L)).append(" strip ").append(x.strip(0));
        return all.append(" digest ").append(x.digest()).toString();
    }

    /** A call that answers this and leaves the panel as it was. */
    static void leaves(String call, long due, Supplier<TwinPanel> panel, ToLongFunction<TwinPanel> made) {
        TwinPanel x = panel.get();
        Due.due(call, made.applyAsLong(x), due);
        TwinPanel untouched = panel.get();
        Due.dueText("all, behind " + call + ",", now(x), now(untouched));
        Due.dueText("what comes behind " + call, later(x), later(untouched));
    }
}
