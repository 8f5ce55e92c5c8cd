import java.util.TreeSet;

/** Counts answers that are not as due, and ends a test. */
final class Due {
    private static int asked = 0;
    private static int wrong = 0;
    private static String where = "";
    private static final TreeSet<Integer> NAMED = new TreeSet<>();

    private Due() {
    }

    /** The answers from here on hold to this sentence of a promise. */
    static void promise(int number, String sentence) {
        where = "promise " + number + " [" + sentence + "]: ";
        NAMED.add(number);
    }

    /** The answers from here on hold to this sentence of the terms. */
    static void terms(String sentence) {
        where = "terms [" + sentence + "]: ";
    }

    static void due(String call, long got, long want) {
        asked++;
        if (got != want) {
            wrong++;
            System.out.println(where + call + " answered " + got + ", due is " + want);
        }
    }

    /** A number's bits are compared, but told as a number too. */
    static void dueNumber(String call, long got, double want) {
        asked++;
        if (got != bits(want)) {
            wrong++;
            System.out.println(where + call + " answered " + Double.longBitsToDouble(got) + ", due is " + want);
        }
    }

    static void dueSingle(String call, int got, float want) {
        asked++;
        if (got != Float.floatToRawIntBits(want)) {
            wrong++;
            System.out.println(where + call + " answered " + Float.intBitsToFloat(got) + ", due is " + want);
        }
    }

    static void dueText(String what, String got, String want) {
        asked++;
        if (!got.equals(want)) {
            wrong++;
            System.out.println(where + what + " told\n  " + got + "\n  due is\n  " + want);
        }
    }

    static void dueTrue(String what, boolean holds) {
        asked++;
        if (!holds) {
            wrong++;
            System.out.println(where + "does not hold: " + what);
        }
    }

    static long bits(double v) {
        return Double.doubleToRawLongBits(v);
    }

    static int wrongOnes() {
        return wrong;
    }

    static void end() {
        System.out.println(asked + " answers, " + wrong + " not as due");
        if (wrong != 0 || asked == 0) {
            System.exit(1);
        }
    }

    /** Ends a test that is to name each of these promises. */
    static void endOf(int first, int last) {
        where = "";
        for (int number = first; number <= last; number++) {
            dueTrue("promise " + number + " has a test that names it", NAMED.contains(number));
        }
        end();
    }
}
