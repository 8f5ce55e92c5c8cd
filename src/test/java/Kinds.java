/** What a module reads at START, in both twins, and its lamp. */
final class Kinds {
    private Kinds() {
    }

    /** At START module m reads this, and its lamp is so. */
    static void reads(String what, TwinPanel x, int m, double reading, float single, int lamp) {
        Due.due("mode(1) of " + what, x.mode(1), 0);
        Due.dueNumber("reading of " + what, x.reading(m), reading);
        Due.dueSingle("single of " + what, x.single(m), single);
        Due.due("lamp of " + what, x.lamp(m), lamp);
    }

    /** What a module of the kind reads of these. */
    static void kind(int kind, double setting, double reading, float single, int lamp, double... ins) {
        StringBuilder what = new StringBuilder("kind " + kind + " of");
        for (double in : ins) {
            what.append(' ').append(in);
        }
        reads(what.toString(), Panels.fed(kind, setting, ins), ins.length, reading, single, lamp);
    }
}
