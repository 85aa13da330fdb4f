/** Counts and tells the answers that are not the ones that are due. */
final class Check {
    private static int wrong = 0;

    private Check() {
    }

    static void due(String what, long got, long want) {
        if (got != want) {
            tell(what, String.valueOf(got), String.valueOf(want));
        }
    }

    static void dueFloat(String what, float got, float want) {
        if (got != want) {
            tell(what, String.valueOf(got), String.valueOf(want));
        }
    }

    /** Ends the test: exit code 1 if an answer was wrong. */
    static void finish() {
        if (wrong > 0) {
            System.out.println(wrong + " answers are not as due");
            System.exit(1);
        }
    }

    private static void tell(String what, String got, String want) {
        wrong++;
        if (wrong <= 40) {
            System.out.println(what + " answered " + got + ", due is " + want);
        }
    }
}
