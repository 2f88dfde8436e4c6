/** Counts and prints the answers that are not the ones that are due. */
final class Check {
    private static int made = 0;
    private static int wrong = 0;
    private static final int PRINTED = 40;

    private Check() {
    }

    static void due(String call, long got, long want) {
        made++;
        if (got != want) {
            wrong++;
            if (wrong <= PRINTED) {
                System.out.println(call + " answered " + got + ", due is " + want);
            }
        }
    }

    static void holds(String claim, boolean truth) {
        due(claim, truth ? 1 : 0, 1);
    }

    static int wrongAnswers() {
        return wrong;
    }

    /** Ends the test's process: with code 1 if an answer was wrong, or if nothing was checked at all. */
    static void end() {
        System.out.println(made + " answers checked, " + wrong + " wrong");
        System.exit(wrong == 0 && made > 0 ? 0 : 1);
    }
}
