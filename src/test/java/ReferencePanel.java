import java.util.ArrayList;
import java.util.Arrays;
import java.util.List;

/**
 * The document once more, written another way: with the Java library, real floats beside doubles, readings
 * found by recursion and trials on copies. Random runs compare TwinPanel with it.
 */
final class ReferencePanel {
    private static final int NONE = -1, UNKNOWN = -101, OUTSIDE = -102, STATE = -103, FULL = -104;
    private static final int SUM = 0, TURN = 1, GATHER = 2, TRACK = 3, PRODUCT = 4, QUOTIENT = 5, ROOT = 6,
        TABLE = 7, COMPARE = 8, RELAY = 9, PART = 10, DELAY = 11, LIMIT = 12, NOISE = 13;

    private static final class Module {
        int kind;
        long setting;
        long start;
        final int[] from = {-1, -1, -1, -1, -1, -1};
        final boolean[] turned = new boolean[6];
        final List<double[]> points = new ArrayList<>();
        int failAt;
        int lamp = NONE;
        double reading;
        float single;
        double state;
        float singleState;
        final ArrayList<Double> row = new ArrayList<>();
        final ArrayList<Float> singleRow = new ArrayList<>();
        int seed;
        double apart;
        double rate;

        Module copy() {
            Module c = new Module();
            c.kind = kind;
            c.setting = setting;
            c.start = start;
            System.arraycopy(from, 0, c.from, 0, 6);
            System.arraycopy(turned, 0, c.turned, 0, 6);
            c.points.addAll(points);
            return c;
        }

        boolean remembers() {
            return kind == GATHER || kind == TRACK || kind == DELAY || kind == NOISE;
        }

        double s() {
            return Double.longBitsToDouble(setting);
        }
    }

    private static final class Strip {
        final int of;
        final List<Double> samples = new ArrayList<>();

        Strip(int of) {
            this.of = of;
        }
    }

    private final List<Module> modules = new ArrayList<>();
    private final List<Strip> strips = new ArrayList<>();
    private int mode = 0;
    private int time = 0;
    private int rule = 0;
    private int k = 4;
    private int broken = 0;
    private int steps = 0;
    private double[] swept = {};
    private int lampTime = 0;

    private boolean known(int m) {
        return m >= 0 && m < modules.size();
    }

    private static boolean settingFits(int kind, double s) {
        if (Double.isNaN(s)) {
            return false;
        }
        if (kind == PART) {
            return Math.abs(s) <= 1.0;
        }
        if (kind == DELAY) {
            return s >= 1.0 && s <= 16.0 && Math.rint(s) == s;
        }
        if (kind == LIMIT) {
            return s >= 0.0 && s <= 1.5;
        }
        if (kind == NOISE) {
            return s >= 0.0 && s <= 1000000.0 && Math.rint(s) == s;
        }
        return s == 0.0;
    }

    private static boolean isSmall(double v) {
        return Math.abs(v) <= 1.5;
    }

    int module(int kind, long setting) {
        if (kind < 0 || kind > 13 || !settingFits(kind, Double.longBitsToDouble(setting))) {
            return OUTSIDE;
        }
        if (mode != 0) {
            return STATE;
        }
        if (modules.size() == 20) {
            return FULL;
        }
        Module m = new Module();
        m.kind = kind;
        m.setting = setting;
        modules.add(m);
        return modules.size() - 1;
    }

    int cord(int m, int input, int from, boolean turned) {
        if (!known(m) || from != -1 && !known(from)) {
            return UNKNOWN;
        }
        if (input < 0 || input > 5) {
            return OUTSIDE;
        }
        if (mode != 0) {
            return STATE;
        }
        modules.get(m).from[input] = from;
        modules.get(m).turned[input] = turned && from >= 0;
        return 1;
    }

    int point(int m, long x, long y) {
        if (!known(m)) {
            return UNKNOWN;
        }
        Module table = modules.get(m);
        double px = Double.longBitsToDouble(x);
        double py = Double.longBitsToDouble(y);
        if (table.kind != TABLE || !isSmall(px) || !isSmall(py)) {
            return OUTSIDE;
        }
        if (!table.points.isEmpty()) {
            double last = table.points.get(table.points.size() - 1)[0];
            if (!(px > last) || !((float) px > (float) last)) {
                return OUTSIDE;
            }
        }
        if (mode != 0) {
            return STATE;
        }
        if (table.points.size() == 8) {
            return FULL;
        }
        table.points.add(new double[] {px, py});
        return table.points.size();
    }

    int begin(int m, long v) {
        if (!known(m)) {
            return UNKNOWN;
        }
        if (!isSmall(Double.longBitsToDouble(v)) || !modules.get(m).remembers()) {
            return OUTSIDE;
        }
        if (mode != 0) {
            return STATE;
        }
        modules.get(m).start = v;
        return 1;
    }

    int setting(int m, long s) {
        if (!known(m)) {
            return UNKNOWN;
        }
        if (!settingFits(modules.get(m).kind, Double.longBitsToDouble(s))) {
            return OUTSIDE;
        }
        if (mode != 0) {
            return STATE;
        }
        modules.get(m).setting = s;
        return 1;
    }

    int rule(int newRule, int newK) {
        if (newRule < 0 || newRule > 2 || newK < 1 || newK > 20) {
            return OUTSIDE;
        }
        if (mode != 0) {
            return STATE;
        }
        rule = newRule;
        k = newK;
        return 1;
    }

    private boolean breaks(Module m, int number, int which) {
        if (which == 1) {
            boolean[] has = new boolean[6];
            boolean any = false;
            for (int i = 0; i < 6; i++) {
                has[i] = m.from[i] >= 0;
                any |= has[i];
            }
            switch (m.kind) {
                case SUM: case GATHER:
                    return !any;
                case NOISE:
                    return false;
                case TRACK: case PRODUCT: case QUOTIENT: case COMPARE:
                    return !has[0] || !has[1];
                case RELAY:
                    return !has[0] || !has[1] || !has[2];
                default:
                    return !has[0];
            }
        }
        if (which == 2) {
            return m.kind == TABLE && m.points.size() < 2;
        }
        return !m.remembers() && comesBack(number, number, new boolean[20]);
    }

    /** Whether walking up cords from 'at', through none that remembers, arrives at 'goal'. */
    private boolean comesBack(int at, int goal, boolean[] seen) {
        for (int f : modules.get(at).from) {
            if (f < 0 || modules.get(f).remembers()) {
                continue;
            }
            if (f == goal) {
                return true;
            }
            if (!seen[f]) {
                seen[f] = true;
                if (comesBack(f, goal, seen)) {
                    return true;
                }
            }
        }
        return false;
    }

    private int[] looked() {
        for (int which = 1; which <= 3; which++) {
            for (int m = 0; m < modules.size(); m++) {
                if (breaks(modules.get(m), m, which)) {
                    return new int[] {m + 1, which};
                }
            }
        }
        return new int[] {0, 0};
    }

    int check() {
        int[] found = looked();
        broken = found[1];
        return found[0];
    }

    int broken() {
        return broken;
    }

    private int levelOf(int m, int depth) {
        if (modules.get(m).remembers()) {
            return 0;
        }
        if (depth > 20) {
            return NONE;
        }
        int most = 0;
        for (int f : new java.util.TreeSet<>(Arrays.asList(boxed(modules.get(m).from)))) {
            if (f >= 0) {
                int l = levelOf(f, depth + 1);
                if (l < 0) {
                    return NONE;
                }
                most = Math.max(most, l);
            }
        }
        return most + 1;
    }

    private static Integer[] boxed(int[] from) {
        Integer[] all = new Integer[from.length];
        for (int i = 0; i < from.length; i++) {
            all[i] = from[i];
        }
        return all;
    }

    int level(int m) {
        return known(m) ? levelOf(m, 0) : UNKNOWN;
    }

    int mode(int to) {
        if (to != 0 && to != 1) {
            return OUTSIDE;
        }
        if (to == 1 && looked()[0] != 0) {
            return STATE;
        }
        int was = mode;
        mode = to;
        if (to == 1) {
            start();
        }
        return was;
    }

    int now() {
        return mode;
    }

    private void start() {
        time = 0;
        lampTime = 0;
        for (Module m : modules) {
            m.lamp = NONE;
            m.apart = 0.0;
            m.state = Double.longBitsToDouble(m.start);
            m.singleState = (float) m.state;
            m.row.clear();
            m.singleRow.clear();
            if (m.kind == DELAY) {
                for (int i = 0; i < (int) m.s(); i++) {
                    m.row.add(m.state);
                    m.singleRow.add(m.singleState);
                }
            }
            m.seed = (int) m.s();
        }
        readAll();
        for (Module m : modules) {
            if (m.kind == GATHER) {
                m.rate = sum(m);
            }
        }
        for (Strip s : strips) {
            s.samples.clear();
        }
        note();
    }

    private void note() {
        for (Strip s : strips) {
            s.samples.add(modules.get(s.of).reading);
        }
        for (Module m : modules) {
            m.apart = Math.max(m.apart, Math.abs(m.reading - (double) m.single));
        }
    }

    private void readAll() {
        boolean[] done = new boolean[modules.size()];
        for (int m = 0; m < modules.size(); m++) {
            read(m, done);
        }
    }

    private void read(int number, boolean[] done) {
        if (done[number]) {
            return;
        }
        done[number] = true;
        Module m = modules.get(number);
        if (!m.remembers()) {
            for (int f : m.from) {
                if (f >= 0) {
                    read(f, done);
                }
            }
        }
        m.reading = after(m, plain(m));
        m.single = after(m, plainSingle(m));
    }

    private double after(Module m, double v) {
        if (Math.abs(v) > 1.5) {
            light(m);
            return Math.copySign(1.5, v);
        }
        return v == 0.0 ? 0.0 : v;
    }

    private float after(Module m, float v) {
        if (Math.abs(v) > 1.5f) {
            light(m);
            return Math.copySign(1.5f, v);
        }
        return v == 0.0f ? 0.0f : v;
    }

    private void light(Module m) {
        if (m.lamp == NONE) {
            m.lamp = lampTime;
        }
    }

    private double in(Module m, int i) {
        double v = modules.get(m.from[i]).reading;
        return m.turned[i] ? -v : v;
    }

    private float inSingle(Module m, int i) {
        float v = modules.get(m.from[i]).single;
        return m.turned[i] ? -v : v;
    }

    private double sum(Module m) {
        Double all = null;
        for (int i = 0; i < 6; i++) {
            if (m.from[i] >= 0) {
                all = all == null ? in(m, i) : all + in(m, i);
            }
        }
        return all;
    }

    private float sumSingle(Module m) {
        Float all = null;
        for (int i = 0; i < 6; i++) {
            if (m.from[i] >= 0) {
                all = all == null ? inSingle(m, i) : all + inSingle(m, i);
            }
        }
        return all;
    }

    private double plain(Module m) {
        switch (m.kind) {
            case SUM:
                return sum(m);
            case TURN:
                return -in(m, 0);
            case PRODUCT:
                return in(m, 0) * in(m, 1);
            case QUOTIENT:
                if (in(m, 1) == 0.0) {
                    if (in(m, 0) == 0.0) {
                        return 0.0;
                    }
                    light(m);
                    return Math.copySign(1.5, in(m, 0));
                }
                return in(m, 0) / in(m, 1);
            case ROOT:
                if (in(m, 0) < 0.0) {
                    light(m);
                    return 0.0;
                }
                return Math.sqrt(in(m, 0));
            case TABLE:
                return table(m, in(m, 0));
            case COMPARE:
                return in(m, 0) > in(m, 1) ? 1.0 : -1.0;
            case RELAY:
                return in(m, 2) > 0.0 ? in(m, 0) : in(m, 1);
            case PART:
                return in(m, 0) * m.s();
            case LIMIT:
                return in(m, 0) > m.s() ? m.s() : in(m, 0) < -m.s() ? -m.s() : in(m, 0);
            case DELAY:
                return m.row.get(0);
            default:
                return m.state;
        }
    }

    private float plainSingle(Module m) {
        float s = (float) m.s();
        switch (m.kind) {
            case SUM:
                return sumSingle(m);
            case TURN:
                return -inSingle(m, 0);
            case PRODUCT:
                return inSingle(m, 0) * inSingle(m, 1);
            case QUOTIENT:
                if (inSingle(m, 1) == 0.0f) {
                    if (inSingle(m, 0) == 0.0f) {
                        return 0.0f;
                    }
                    light(m);
                    return Math.copySign(1.5f, inSingle(m, 0));
                }
                return inSingle(m, 0) / inSingle(m, 1);
            case ROOT:
                if (inSingle(m, 0) < 0.0f) {
                    light(m);
                    return 0.0f;
                }
                return (float) Math.sqrt(inSingle(m, 0));
            case TABLE:
                return tableSingle(m, inSingle(m, 0));
            case COMPARE:
                return inSingle(m, 0) > inSingle(m, 1) ? 1.0f : -1.0f;
            case RELAY:
                return inSingle(m, 2) > 0.0f ? inSingle(m, 0) : inSingle(m, 1);
            case PART:
                return inSingle(m, 0) * s;
            case LIMIT:
                return inSingle(m, 0) > s ? s : inSingle(m, 0) < -s ? -s : inSingle(m, 0);
            case DELAY:
                return m.singleRow.get(0);
            default:
                return m.singleState;
        }
    }

    private static double table(Module m, double v) {
        List<double[]> p = m.points;
        int last = p.size() - 1;
        if (v <= p.get(0)[0]) {
            return p.get(0)[1];
        }
        if (v >= p.get(last)[0]) {
            return p.get(last)[1];
        }
        int at = last;
        while (p.get(at)[0] > v) {
            at--;
        }
        double[] a = p.get(at);
        double[] b = p.get(at + 1);
        return (v - a[0]) * (b[1] - a[1]) / (b[0] - a[0]) + a[1];
    }

    private static float tableSingle(Module m, float v) {
        List<double[]> p = m.points;
        int last = p.size() - 1;
        if (v <= (float) p.get(0)[0]) {
            return (float) p.get(0)[1];
        }
        if (v >= (float) p.get(last)[0]) {
            return (float) p.get(last)[1];
        }
        int at = last;
        while ((float) p.get(at)[0] > v) {
            at--;
        }
        float ax = (float) p.get(at)[0];
        float ay = (float) p.get(at)[1];
        float bx = (float) p.get(at + 1)[0];
        float by = (float) p.get(at + 1)[1];
        return (v - ax) * (by - ay) / (bx - ax) + ay;
    }

    private double[] rates() {
        double[] all = new double[modules.size()];
        for (int m = 0; m < all.length; m++) {
            all[m] = modules.get(m).kind == GATHER ? sum(modules.get(m)) : 0.0;
        }
        return all;
    }

    private float[] singleRates() {
        float[] all = new float[modules.size()];
        for (int m = 0; m < all.length; m++) {
            all[m] = modules.get(m).kind == GATHER ? sumSingle(modules.get(m)) : 0.0f;
        }
        return all;
    }

    private void put(double[] y, float[] z, double t, double[] r, float[] f) {
        for (int m = 0; m < y.length; m++) {
            Module g = modules.get(m);
            if (g.kind == GATHER) {
                g.state = after(g, y[m] + t * r[m]);
                g.singleState = after(g, z[m] + (float) t * f[m]);
            }
        }
    }

    private void step(int power) {
        double t = 1.0 / (1 << power);
        lampTime = time + 1;
        int size = modules.size();
        double[] y = new double[size];
        float[] z = new float[size];
        double[] coming = new double[size];
        float[] comingSingle = new float[size];
        for (int m = 0; m < size; m++) {
            Module x = modules.get(m);
            y[m] = x.state;
            z[m] = x.singleState;
            if (x.kind == TRACK) {
                coming[m] = in(x, 1) > 0.0 ? in(x, 0) : x.state;
                comingSingle[m] = inSingle(x, 1) > 0.0f ? inSingle(x, 0) : x.singleState;
            }
            if (x.kind == DELAY) {
                coming[m] = in(x, 0);
                comingSingle[m] = inSingle(x, 0);
            }
        }
        gather(t, y, z);
        for (int m = 0; m < size; m++) {
            Module x = modules.get(m);
            if (x.kind == TRACK) {
                x.state = coming[m];
                x.singleState = comingSingle[m];
            }
            if (x.kind == DELAY) {
                x.row.add(coming[m]);
                x.row.remove(0);
                x.singleRow.add(comingSingle[m]);
                x.singleRow.remove(0);
            }
            if (x.kind == NOISE) {
                x.seed = 1664525 * x.seed + 1013904223;
                x.state = x.seed / 2147483648.0;
                x.singleState = (float) x.state;
            }
        }
        time++;
        readAll();
    }

    private void gather(double t, double[] y, float[] z) {
        double[] r1 = rates();
        float[] f1 = singleRates();
        if (rule == 0) {
            put(y, z, t, r1, f1);
            return;
        }
        double[] r = new double[y.length];
        float[] f = new float[y.length];
        if (rule == 1) {
            put(y, z, t, r1, f1);
            readAll();
            double[] r2 = rates();
            float[] f2 = singleRates();
            for (int m = 0; m < y.length; m++) {
                r[m] = r1[m] + r2[m];
                f[m] = f1[m] + f2[m];
            }
            put(y, z, t / 2.0, r, f);
            return;
        }
        put(y, z, t / 2.0, r1, f1);
        readAll();
        double[] r2 = rates();
        float[] f2 = singleRates();
        put(y, z, t / 2.0, r2, f2);
        readAll();
        double[] r3 = rates();
        float[] f3 = singleRates();
        put(y, z, t, r3, f3);
        readAll();
        double[] r4 = rates();
        float[] f4 = singleRates();
        for (int m = 0; m < y.length; m++) {
            r[m] = (r1[m] + 2.0 * r2[m] + 2.0 * r3[m] + r4[m]) / 6.0;
            f[m] = (f1[m] + 2.0f * f2[m] + 2.0f * f3[m] + f4[m]) / 6.0f;
        }
        put(y, z, t, r, f);
    }

    int run(int n) {
        if (n < 1 || n > 100) {
            return OUTSIDE;
        }
        if (mode == 0) {
            return STATE;
        }
        if (time + n > 300) {
            return FULL;
        }
        for (Strip s : strips) {
            if (s.samples.size() + n > 120) {
                return FULL;
            }
        }
        mode = 2;
        for (int i = 0; i < n; i++) {
            for (int m = 0; m < modules.size(); m++) {
                if (modules.get(m).failAt == time + 1) {
                    return -1000 - m;
                }
            }
            step(k);
            steps++;
            note();
        }
        return n;
    }

    int fail(int m, int at) {
        if (!known(m)) {
            return UNKNOWN;
        }
        if (at < 0 || at > 300) {
            return OUTSIDE;
        }
        modules.get(m).failAt = at;
        return 1;
    }

    int time() {
        return time;
    }

    long reading(int m) {
        return known(m) && mode != 0 ? Double.doubleToRawLongBits(modules.get(m).reading) : 0L;
    }

    int single(int m) {
        return known(m) && mode != 0 ? Float.floatToRawIntBits(modules.get(m).single) : 0;
    }

    int lamp(int m) {
        return known(m) ? modules.get(m).lamp : UNKNOWN;
    }

    long apart(int m) {
        return known(m) && mode != 0 ? Double.doubleToRawLongBits(modules.get(m).apart) : 0L;
    }

    long rate(int m) {
        boolean told = known(m) && mode != 0 && modules.get(m).kind == GATHER;
        return told ? Double.doubleToRawLongBits(modules.get(m).rate) : 0L;
    }

    int strip(int m) {
        if (!known(m)) {
            return UNKNOWN;
        }
        if (mode != 0) {
            return STATE;
        }
        if (strips.size() == 6) {
            return FULL;
        }
        strips.add(new Strip(m));
        return strips.size() - 1;
    }

    private boolean knownStrip(int s) {
        return s >= 0 && s < strips.size();
    }

    int samples(int s) {
        return knownStrip(s) ? strips.get(s).samples.size() : UNKNOWN;
    }

    long sample(int s, int i) {
        if (!knownStrip(s) || i < 0 || i >= strips.get(s).samples.size()) {
            return 0L;
        }
        return Double.doubleToRawLongBits(strips.get(s).samples.get(i));
    }

    int crossing(int s, int nth) {
        if (!knownStrip(s)) {
            return UNKNOWN;
        }
        List<Integer> places = new ArrayList<>();
        List<Double> all = strips.get(s).samples;
        for (int i = 1; i < all.size(); i++) {
            if (all.get(i) > 0.0 != all.get(i - 1) > 0.0) {
                places.add(i);
            }
        }
        return nth >= 0 && nth < places.size() ? places.get(nth) : NONE;
    }

    int peak(int s, int nth) {
        if (!knownStrip(s)) {
            return UNKNOWN;
        }
        List<Integer> places = new ArrayList<>();
        List<Double> all = strips.get(s).samples;
        for (int i = 1; i < all.size() - 1; i++) {
            double here = all.get(i);
            if (here > all.get(i - 1) && here >= all.get(i + 1)) {
                places.add(i);
            }
        }
        return nth >= 0 && nth < places.size() ? places.get(nth) : NONE;
    }

    private ReferencePanel trial() {
        ReferencePanel copy = new ReferencePanel();
        for (Module m : modules) {
            copy.modules.add(m.copy());
        }
        copy.rule = rule;
        copy.k = k;
        return copy;
    }

    int sweep(int m, long from, long by, int count, int n, int q) {
        if (!known(m) || !known(q)) {
            return UNKNOWN;
        }
        if (count < 1 || count > 6 || n < 1 || n > 40) {
            return OUTSIDE;
        }
        double[] all = new double[count];
        for (int j = 0; j < count; j++) {
            all[j] = Double.longBitsToDouble(from) + j * Double.longBitsToDouble(by);
            if (!settingFits(modules.get(m).kind, all[j])) {
                return OUTSIDE;
            }
        }
        if (mode == 0) {
            return STATE;
        }
        swept = new double[count];
        for (int j = 0; j < count; j++) {
            ReferencePanel copy = trial();
            copy.modules.get(m).setting = Double.doubleToRawLongBits(all[j]);
            copy.start();
            for (int i = 0; i < n; i++) {
                copy.step(k);
            }
            swept[j] = copy.modules.get(q).reading;
        }
        return count;
    }

    long swept(int j) {
        return j >= 0 && j < swept.length ? Double.doubleToRawLongBits(swept[j]) : 0L;
    }

    long halved(int q, int n) {
        if (!known(q) || n < 1 || n > 20 || mode == 0) {
            return 0L;
        }
        double most = 0.0;
        ReferencePanel whole = trial();
        ReferencePanel half = trial();
        whole.start();
        half.start();
        for (int j = 1; j <= n; j++) {
            whole.step(k);
            half.step(k + 1);
            half.step(k + 1);
            most = Math.max(most, Math.abs(whole.modules.get(q).reading - half.modules.get(q).reading));
        }
        return Double.doubleToRawLongBits(most);
    }

    int about(int m, int what) {
        if (!known(m)) {
            return UNKNOWN;
        }
        Module x = modules.get(m);
        int[] all = new int[15];
        all[0] = x.kind;
        for (int i = 0; i < 6; i++) {
            all[1 + i] = x.from[i];
            all[7 + i] = x.turned[i] ? 1 : 0;
        }
        all[13] = x.points.size();
        all[14] = x.failAt;
        return what < 0 || what > 14 ? OUTSIDE : all[what];
    }

    int count(int what) {
        int cords = 0;
        int greatest = 0;
        int lit = 0;
        for (int m = 0; m < modules.size(); m++) {
            for (int f : modules.get(m).from) {
                cords += f >= 0 ? 1 : 0;
            }
            if (what == 3) {
                greatest = Math.max(greatest, levelOf(m, 0));
            }
            lit += modules.get(m).lamp >= 0 ? 1 : 0;
        }
        int[] all = {modules.size(), strips.size(), cords, greatest, lit, steps, rule, k};
        return what < 0 || what > 7 ? OUTSIDE : all[what];
    }

    long digest() {
        List<Long> all = new ArrayList<>();
        all.add((long) mode);
        all.add((long) time);
        for (Module m : modules) {
            all.add((long) m.kind);
            all.add(m.setting);
            for (int i = 0; i < 6; i++) {
                all.add((long) m.from[i]);
                all.add(m.turned[i] ? 1L : 0L);
            }
            all.add(m.start);
            if (mode != 0) {
                all.add(Double.doubleToRawLongBits(m.reading));
                all.add((long) Float.floatToRawIntBits(m.single));
                all.add((long) m.lamp);
            }
        }
        for (Strip s : strips) {
            all.add((long) s.samples.size());
            for (double v : s.samples) {
                all.add(Double.doubleToRawLongBits(v));
            }
        }
        long h = 47;
        for (long it : all) {
            h = 31 * h + it;
        }
        return h;
    }
}
