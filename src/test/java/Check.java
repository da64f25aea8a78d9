/** Counts the answers that are not as they are due, and ends a test with exit code 1 if there were any. */
final class Check {
    interface Call {
        double make();
    }

    private static int checked;
    private static int wrong;

    private Check() {
    }

    static void due(String what, double got, double want) {
        checked++;
        if (got != want) {
            wrong++;
            System.out.println(what + " answered " + got + ", due is " + want);
        }
    }

    /** For answers with more bits than a double has. */
    static void dueBits(String what, long got, long want) {
        checked++;
        if (got != want) {
            wrong++;
            System.out.println(what + " answered " + got + ", due is " + want);
        }
    }

    static void dueText(String what, String got, String want) {
        checked++;
        if (!got.equals(want)) {
            wrong++;
            System.out.println(what + " answered " + got + ", due is " + want);
        }
    }

    static void dueThrow(String what, Class<? extends RuntimeException> want, Call call) {
        dueText(what, thrown(call), want.getSimpleName());
    }

    private static String thrown(Call call) {
        try {
            return "" + call.make();
        } catch (RuntimeException e) {
            return e.getClass().getSimpleName();
        }
    }

    static boolean allRight() {
        return wrong == 0;
    }

    static void end() {
        System.out.println(checked + " answers checked, " + wrong + " of them not as due");
        if (wrong != 0) {
            System.exit(1);
        }
    }
}
