import java.util.Random;

/** Random calls on TwinPanel and on the reference, answer by answer; the seeds are fixed. */
public final class RandomRunsTest {
    private static final int[] WHATS = {-1, 0, 1, 2, 3, 4, 5, 6, 7, 8, 9, 10, 11, 12, 13, 14, 15};
    private static final double[] ODD = {0.0, -0.0, 1.5, -1.5, Math.nextUp(1.5), -Math.nextUp(1.5), 1.0, -1.0,
        Math.nextUp(1.0), Double.MIN_VALUE, -Double.MIN_VALUE, Float.MIN_VALUE, Double.MIN_NORMAL, Float.MIN_NORMAL,
        1.0e-30, 3.0e-39, -2.0e-42, 1.0e-160, 1.0e-310, Double.POSITIVE_INFINITY, Double.NEGATIVE_INFINITY,
        Double.NaN, Double.MAX_VALUE, 16.0, 17.0, 1000000.0, 1000001.0, 0.1, 0.5, 2.0, 1.4999999999999998};

    private final Random random;
    private final TwinPanel x = new TwinPanel();
    private final ReferencePanel y = new ReferencePanel();
    private final StringBuilder told = new StringBuilder();
    private int made = 0;
    private int calls = 0;
    private boolean isWrong = false;

    private RandomRunsTest(long seed) {
        random = new Random(seed);
    }

    private void same(String call, long got, long want) {
        calls++;
        Due.due(call, got, want);
        told.append(call).append(" -> ").append(want).append('\n');
        if (got != want && !isWrong) {
            isWrong = true;
            System.out.println("the run up to there:\n" + told);
        }
    }

    private double number() {
        int way = random.nextInt(12);
        if (way == 0) {
            return ODD[random.nextInt(ODD.length)];
        }
        if (way == 1) {
            return Math.scalb(random.nextDouble() - 0.5, -random.nextInt(160));
        }
        if (way == 2) {
            return (float) (random.nextDouble() * 3.0 - 1.5);
        }
        return random.nextDouble() * 3.0 - 1.5;
    }

    private double settingOf(int kind) {
        if (random.nextInt(12) == 0) {
            return number();
        }
        switch (kind) {
            case 10:
                return random.nextDouble() * 2.0 - 1.0;
            case 11:
                return 1 + random.nextInt(16);
            case 12:
                return random.nextDouble() * 1.5;
            case 13:
                return random.nextInt(1000001);
            default:
                return 0.0;
        }
    }

    private int anyModule() {
        return random.nextInt(25) == 0 ? random.nextInt(24) - 2 : random.nextInt(Math.max(1, made));
    }

    private void makeModule() {
        int kind = random.nextInt(30) == 0 ? random.nextInt(18) - 2 : random.nextInt(14);
        long s = Due.bits(settingOf(kind));
        int got = x.module(kind, s);
        same("module(" + kind + ", " + s + ")", got, y.module(kind, s));
        made = Math.max(made, got + 1);
    }

    private void makeCord(int m, int input, int from) {
        boolean turned = random.nextInt(3) == 0;
        same("cord(" + m + ", " + input + ", " + from + ", " + turned + ")", x.cord(m, input, from, turned),
            y.cord(m, input, from, turned));
    }

    private void makePoint(int m, double px) {
        long a = Due.bits(px);
        long b = Due.bits(number());
        same("point(" + m + ", " + a + ", " + b + ")", x.point(m, a, b), y.point(m, a, b));
    }

    private void begin(int m) {
        long v = Due.bits(number());
        same("begin(" + m + ", " + v + ")", x.begin(m, v), y.begin(m, v));
    }

    private void setting(int m) {
        long v = Due.bits(settingOf(x.about(m, 0)));
        same("setting(" + m + ", " + v + ")", x.setting(m, v), y.setting(m, v));
    }

    private void rule() {
        int rule = random.nextInt(20) == 0 ? random.nextInt(5) - 1 : random.nextInt(3);
        int k = random.nextInt(4) == 0 ? random.nextInt(23) : 1 + random.nextInt(5);
        same("rule(" + rule + ", " + k + ")", x.rule(rule, k), y.rule(rule, k));
    }

    private void mode(int to) {
        same("mode(" + to + ")", x.mode(to), y.mode(to));
    }

    /** A panel that mostly passes check(): what does not remember is tied to lower numbers or to what does. */
    private void build() {
        int size = 1 + random.nextInt(21);
        for (int i = 0; i < size; i++) {
            makeModule();
        }
        boolean isLoose = random.nextInt(6) == 0;
        for (int m = 0; m < made; m++) {
            int kind = x.about(m, 0);
            int inputs = kind == 13 ? 0 : kind == 9 ? 3 : kind == 0 || kind == 2 ? 1 + random.nextInt(3) : 2;
            boolean remembers = kind == 2 || kind == 3 || kind == 11;
            for (int i = 0; i < inputs; i++) {
                int from = remembers || isLoose ? random.nextInt(made) : pickSource(m);
                makeCord(m, kind == 0 || kind == 2 ? random.nextInt(6) : i, from);
            }
            if (kind == 7) {
                double px = -random.nextDouble() * 1.2;
                for (int p = 0; p < 2 + random.nextInt(4); p++) {
                    makePoint(m, px);
                    px += random.nextDouble() * 0.6;
                }
            }
            if (random.nextInt(2) == 0) {
                begin(m);
            }
        }
        rule();
        for (int i = random.nextInt(4); i > 0; i--) {
            strip();
        }
        same("check()", x.check(), y.check());
        mode(1);
    }

    private int pickSource(int m) {
        for (int tries = 0; tries < 30; tries++) {
            int from = random.nextInt(made);
            int kind = x.about(from, 0);
            if (from < m || kind == 2 || kind == 3 || kind == 11 || kind == 13) {
                return from;
            }
        }
        return random.nextInt(made);
    }

    private void strip() {
        int m = anyModule();
        same("strip(" + m + ")", x.strip(m), y.strip(m));
    }

    private void runSteps() {
        int n = random.nextInt(8) == 0 ? random.nextInt(104) - 1 : 1 + random.nextInt(9);
        same("run(" + n + ")", x.run(n), y.run(n));
    }

    private void fail() {
        int m = anyModule();
        int at = random.nextInt(3) == 0 ? random.nextInt(304) - 1 : random.nextInt(40);
        same("fail(" + m + ", " + at + ")", x.fail(m, at), y.fail(m, at));
    }

    private void askModule(int m) {
        same("reading(" + m + ")", x.reading(m), y.reading(m));
        same("single(" + m + ")", x.single(m), y.single(m));
        same("lamp(" + m + ")", x.lamp(m), y.lamp(m));
        same("apart(" + m + ")", x.apart(m), y.apart(m));
        same("rate(" + m + ")", x.rate(m), y.rate(m));
        same("level(" + m + ")", x.level(m), y.level(m));
        int what = WHATS[random.nextInt(WHATS.length)];
        same("about(" + m + ", " + what + ")", x.about(m, what), y.about(m, what));
    }

    private void askStrip(int s) {
        int i = random.nextInt(60) - 1;
        int nth = random.nextInt(5) - 1;
        same("samples(" + s + ")", x.samples(s), y.samples(s));
        same("sample(" + s + ", " + i + ")", x.sample(s, i), y.sample(s, i));
        same("crossing(" + s + ", " + nth + ")", x.crossing(s, nth), y.crossing(s, nth));
        same("peak(" + s + ", " + nth + ")", x.peak(s, nth), y.peak(s, nth));
    }

    private void sweep() {
        int m = anyModule();
        int q = anyModule();
        int kind = x.about(m, 0);
        long from = Due.bits(settingOf(kind));
        double step = kind == 11 || kind == 13 ? random.nextInt(4) - 1 : kind == 10 || kind == 12 ? number() / 8 : 0.0;
        long by = Due.bits(random.nextInt(12) == 0 ? number() : step);
        int count = random.nextInt(9);
        int n = random.nextInt(10) == 0 ? random.nextInt(44) : 1 + random.nextInt(12);
        same("sweep(" + m + ", " + from + ", " + by + ", " + count + ", " + n + ", " + q + ")",
            x.sweep(m, from, by, count, n, q), y.sweep(m, from, by, count, n, q));
        for (int j = -1; j < 7; j++) {
            same("swept(" + j + ")", x.swept(j), y.swept(j));
        }
    }

    private void halved() {
        int q = anyModule();
        int n = random.nextInt(23) - 1;
        same("halved(" + q + ", " + n + ")", x.halved(q, n), y.halved(q, n));
    }

    private void patchCall() {
        switch (random.nextInt(7)) {
            case 0: makeModule(); break;
            case 1: makeCord(anyModule(), random.nextInt(8) - 1, random.nextInt(23) - 2); break;
            case 2: makePoint(anyModule(), number()); break;
            case 3: begin(anyModule()); break;
            case 4: setting(anyModule()); break;
            case 5: rule(); break;
            default: strip(); break;
        }
    }

    private void anyCall() {
        switch (random.nextInt(16)) {
            case 0: case 1: patchCall(); break;
            case 2: mode(random.nextInt(4) - 1); break;
            case 3: mode(1); break;
            case 4: case 5: case 6: runSteps(); break;
            case 7: fail(); break;
            case 8: case 9: askModule(anyModule()); break;
            case 10: askStrip(random.nextInt(8) - 1); break;
            case 11: sweep(); break;
            case 12: halved(); break;
            case 13:
                same("check()", x.check(), y.check());
                same("broken()", x.broken(), y.broken());
                break;
            case 14:
                int what = random.nextInt(10) - 1;
                same("count(" + what + ")", x.count(what), y.count(what));
                break;
            default:
                same("now()", x.now(), y.now());
                same("time()", x.time(), y.time());
                break;
        }
        same("broken()", x.broken(), y.broken());
        same("digest()", x.digest(), y.digest());
    }

    private void go() {
        if (random.nextInt(10) != 0) {
            build();
        }
        while (calls < 400 && !isWrong) {
            anyCall();
        }
    }

    public static void main(String[] args) {
        int runs = args.length > 0 ? Integer.parseInt(args[0]) : 3000;
        long base = args.length > 1 ? Long.parseLong(args[1]) : 1L;
        for (int i = 0; i < runs && Due.wrongOnes() < 3; i++) {
            new RandomRunsTest(base + i).go();
        }
        Due.end();
    }
}
