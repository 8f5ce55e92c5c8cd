/** Counts answers that are not as due, and ends a test. */
final class Due {
    private static int asked = 0;
    private static int wrong = 0;

    private Due() {
    }

    static void due(String call, long got, long want) {
        asked++;
        if (got != want) {
            wrong++;
            System.out.println(call + " answered " + got + ", due is " + want);
        }
    }

    /** A number's bits are compared, but told as a number too. */
    static void dueNumber(String call, long got, double want) {
        asked++;
        if (got != bits(want)) {
            wrong++;
            System.out.println(call + " answered " + Double.longBitsToDouble(got) + ", due is " + want);
        }
    }

    static void dueTrue(String what, boolean holds) {
        asked++;
        if (!holds) {
            wrong++;
            System.out.println("does not hold: " + what);
        }
    }

    static long bits(double v) {
        return Double.doubleToRawLongBits(v);
    }

    static int wrongOnes() {
        return wrong;
    }

    static void end() {
        System.out.println(asked + " answers, " + wrong + " not as due");
        if (wrong != 0 || asked == 0) {
            System.exit(1);
        }
    }
}
