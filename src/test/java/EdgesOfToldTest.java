/** The edges of promises 29 to 31: about, count and digest, of none, of one and of the most. */
public final class EdgesOfToldTest {
    private static final int NONE = TwinPanel.NONE;

    private static long b(double v) {
        return Due.bits(v);
    }

    private static void abouts() {
        Due.promise(29, "0 KIND, of each");
        TwinPanel x = new TwinPanel();
        for (int kind = 0; kind < 14; kind++) {
            x.module(kind, Panels.settingOf(kind));
        }
        for (int m = 0; m < 14; m++) {
            Due.due("about(" + m + ", 0)", x.about(m, 0), m);
        }
        Due.promise(29, "1 + i the MODULE of the CORD of INPUT i (NONE), 7 + i whether that is TURNED (1, 0)");
        for (int input = 0; input < 6; input++) {
            TwinPanel y = Panels.noises(new double[20]);
            y.cord(19, input, 13, true);
            for (int i = 0; i < 6; i++) {
                Due.due("about(19, " + (1 + i) + ")", y.about(19, 1 + i), i == input ? 13 : NONE);
                Due.due("about(19, " + (7 + i) + ")", y.about(19, 7 + i), i == input ? 1 : 0);
                Due.due("about(18, " + (1 + i) + ")", y.about(18, 1 + i), NONE);
                Due.due("about(18, " + (7 + i) + ")", y.about(18, 7 + i), 0);
            }
        }
        Due.promise(29, "13 how many points: 0 to 8, of others 0");
        TwinPanel t = new TwinPanel();
        t.module(Panels.NOISE, 0L);
        t.module(Panels.TABLE, 0L);
        for (int points = 0; points <= 8; points++) {
            Due.due("about(1, 13)", t.about(1, 13), points);
            Due.due("about(0, 13)", t.about(0, 13), 0);
            t.point(1, b(points / 8.0), 0L);
        }
        Due.due("about(1, 13) behind a refused point", t.about(1, 13), 8);
        Due.promise(29, "14 at which TIME it is to FAIL: 0, 1 to 300");
        for (int time : new int[] {0, 1, 300}) {
            t.fail(1, time);
            Due.due("about(1, 14)", t.about(1, 14), time);
            Due.due("about(0, 14)", t.about(0, 14), 0);
        }
        Due.promise(29, "in each MODE");
        TwinPanel[] panels = {Panels.patched(), Panels.started(), Panels.held()};
        int[] due = {7, 1, -1, -1, -1, -1, -1, 0, 0, 0, 0, 0, 0, 2, 0};
        for (TwinPanel y : panels) {
            for (int what = 0; what < 15; what++) {
                Due.due("about(2, " + what + ")", y.about(2, what), due[what]);
            }
            Due.due("about(3, 14)", y.about(3, 14), 12);
        }
    }

    private static void counts() {
        Due.promise(30, "0 MODULES, 1 STRIPS, 2 CORDS: none and the most");
        TwinPanel x = new TwinPanel();
        for (int what = 0; what < 3; what++) {
            Due.due("count(" + what + ")", x.count(what), 0);
        }
        for (int m = 0; m < 20; m++) {
            x.module(Panels.GATHER, 0L);
        }
        for (int m = 0; m < 20; m++) {
            for (int i = 0; i < 6; i++) {
                x.cord(m, i, 19 - m, false);
            }
            Due.due("count(2)", x.count(2), 6 * (m + 1));
        }
        for (int s = 0; s < 6; s++) {
            x.strip(0);
        }
        Due.due("count(0)", x.count(0), 20);
        Due.due("count(1)", x.count(1), 6);
        Due.due("count(2)", x.count(2), 120);
        Due.promise(30, "3 the greatest LEVEL (0 without MODULES; of those that have one)");
        Due.due("count(3) without MODULES", new TwinPanel().count(3), 0);
        Due.due("count(3) of what remembers", x.count(3), 0);
        TwinPanel c = new TwinPanel();
        c.module(Panels.SUM, 0L);
        Due.due("count(3) of one without CORDS", c.count(3), 1);
        c.cord(0, 0, 0, false);
        Due.due("count(3) of one that has no LEVEL", c.count(3), 0);
        c.module(Panels.SUM, 0L);
        c.module(Panels.SUM, 0L);
        c.cord(2, 0, 1, false);
        Due.due("count(3) of those that have one", c.count(3), 2);
        c.module(Panels.SUM, 0L);
        c.cord(3, 0, 2, false);
        c.cord(3, 1, 0, false);
        Due.due("count(3), one is led to by a circle", c.count(3), 2);
    }

    private static void countsOfRuns() {
        Due.promise(30, "4 LAMPS that are lit: none to 20");
        for (int lit = 0; lit <= 10; lit++) {
            TwinPanel x = Panels.noises(new double[10]);
            for (int m = 0; m < 10; m++) {
                x.module(Panels.ROOT, 0L);
                x.cord(10 + m, 0, m, false);
                x.begin(m, b(m < lit ? -0.5 : 0.5));
            }
            Due.due("count(4) in PATCH", x.count(4), 0);
            x.mode(1);
            Due.due("count(4) at START", x.count(4), lit);
            x.mode(0);
            Due.due("count(4) in PATCH again", x.count(4), lit);
        }
        TwinPanel all = new TwinPanel();
        for (int m = 0; m < 20; m++) {
            all.module(Panels.GATHER, 0L);
            all.cord(m, 0, m, false);
            all.begin(m, b(1.25));
        }
        all.rule(0, 1);
        all.mode(1);
        Due.due("count(4) at START", all.count(4), 0);
        all.run(1);
        Due.due("count(4) of all", all.count(4), 20);
        Due.promise(30, "5 STEPS done ever by run()");
        TwinPanel x = Panels.at(300);
        Due.due("count(5)", x.count(5), 300);
        x.run(1);
        x.run(0);
        Due.due("count(5) behind refusals", x.count(5), 300);
        x.mode(1);
        Due.due("count(5) at START", x.count(5), 300);
        x.fail(0, 3);
        x.run(100);
        Due.due("count(5) behind one that FAILS", x.count(5), 302);
        x.sweep(0, 0L, 0L, 6, 40, 0);
        x.halved(0, 20);
        Due.due("count(5) behind trials", x.count(5), 302);
        x.mode(0);
        Due.due("count(5) in PATCH", x.count(5), 302);
        Due.promise(30, "6 RULE, 7 k, in each MODE");
        TwinPanel[] panels = {Panels.patched(), Panels.started(), Panels.held()};
        for (TwinPanel y : panels) {
            Due.due("count(6)", y.count(6), 2);
            Due.due("count(7)", y.count(7), 3);
        }
    }

    private static long h(long... numbers) {
        long h = 47L;
        for (long number : numbers) {
            h = 31L * h + number;
        }
        return h;
    }

    private static void digests() {
        Due.promise(31, "h is 47, then the MODE, TIME: of no MODULES");
        TwinPanel x = new TwinPanel();
        Due.due("digest() in PATCH", x.digest(), h(0, 0));
        x.mode(1);
        Due.due("digest() at START", x.digest(), h(1, 0));
        x.run(100);
        Due.due("digest() in HOLD", x.digest(), h(2, 100));
        x.mode(0);
        Due.due("digest() in PATCH, TIME as it was", x.digest(), h(0, 100));
        Due.promise(31, "of each MODULE its KIND, SETTING (bits), CORDS, START VALUE; not in PATCH: READING, ..");
        TwinPanel y = new TwinPanel();
        y.module(Panels.GATHER, 0L);
        y.begin(0, b(-0.7));
        y.cord(0, 5, 0, true);
        Due.due("digest() in PATCH", y.digest(), h(0, 0, 2, 0, -1, 0, -1, 0, -1, 0, -1, 0, -1, 0, 0, 1, b(-0.7)));
        y.mode(1);
        Due.due("digest() at START", y.digest(), h(1, 0, 2, 0, -1, 0, -1, 0, -1, 0, -1, 0, -1, 0, 0, 1, b(-0.7),
            b(-0.7), Float.floatToRawIntBits(-0.7f), -1));
        Due.promise(31, "LAMP: its TIME, 0 too");
        TwinPanel l = Panels.fed(Panels.ROOT, 0.0, -0.5);
        l.mode(1);
        Due.due("digest()", l.digest(), h(1, 0, 13, 0, -1, 0, -1, 0, -1, 0, -1, 0, -1, 0, -1, 0, b(-0.5), b(-0.5),
            Float.floatToRawIntBits(-0.5f), -1, 6, 0, 0, 0, -1, 0, -1, 0, -1, 0, -1, 0, -1, 0, 0, 0, 0, 0));
        Due.promise(31, "SETTING (bits), of -0.0 too");
        TwinPanel p = new TwinPanel();
        p.module(Panels.PART, b(-0.0));
        Due.due("digest()", p.digest(), h(0, 0, 10, b(-0.0), -1, 0, -1, 0, -1, 0, -1, 0, -1, 0, -1, 0, 0));
    }

    private static void digestsOfStrips() {
        Due.promise(31, "of each STRIP how many samples, these");
        TwinPanel x = new TwinPanel();
        x.module(Panels.NOISE, b(1.0));
        x.begin(0, b(0.25));
        long setting = b(1.0);
        long[] module = {13, setting, -1, 0, -1, 0, -1, 0, -1, 0, -1, 0, -1, 0, b(0.25)};
        x.strip(0);
        x.strip(0);
        Due.due("digest() of no samples", x.digest(), h(joined(new long[] {0, 0}, module, new long[] {0, 0})));
        x.mode(1);
        long single = Float.floatToRawIntBits(0.25f);
        Due.due("digest() of one each", x.digest(), h(joined(new long[] {1, 0}, module,
            new long[] {b(0.25), single, -1, 1, b(0.25), 1, b(0.25)})));
        x.run(1);
        double noise = (1664525 + 1013904223) / 2147483648.0;
        Due.due("digest() of two each", x.digest(), h(joined(new long[] {2, 1}, module,
            new long[] {b(noise), Float.floatToRawIntBits((float) noise), -1, 2, b(0.25), b(noise), 2, b(0.25),
                b(noise)})));
        x.mode(0);
        Due.promise(31, "in PATCH no READING, but samples");
        Due.due("digest() in PATCH", x.digest(), h(joined(new long[] {0, 1}, module,
            new long[] {2, b(0.25), b(noise), 2, b(0.25), b(noise)})));
        Due.promise(31, "of 20 MODULES, and of 6 STRIPS of 120: any part of it tells");
        TwinPanel y = Panels.fullHeld();
        TwinPanel z = Panels.fullHeld();
        Due.due("digest() of two alike", y.digest(), z.digest());
        y.run(1);
        Due.dueTrue("a STEP changes it", y.digest() != z.digest());
    }

    private static long[] joined(long[]... parts) {
        return java.util.Arrays.stream(parts).flatMapToLong(java.util.Arrays::stream).toArray();
    }

    /** What tells changes nothing, in any mode. */
    private static void tellersChangeNothing() {
        Due.promise(29, "what tells changes nothing");
        Told.leaves("about", 7, Panels::held, x -> x.about(2, 0));
        Due.promise(30, "what tells changes nothing");
        for (int what = 0; what < 8; what++) {
            int w = what;
            long due = Panels.held().count(what);
            Told.leaves("count(" + what + ")", due, Panels::held, x -> x.count(w));
        }
        Due.promise(31, "what tells changes nothing");
        Told.leaves("digest()", Panels.held().digest(), Panels::held, x -> x.digest());
        Told.leaves("digest()", Panels.patched().digest(), Panels::patched, x -> x.digest());
    }

    public static void main(String[] args) {
        abouts();
        counts();
        countsOfRuns();
        digests();
        digestsOfStrips();
        tellersChangeNothing();
        Due.endOf(29, 31);
    }
}
