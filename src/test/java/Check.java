/** Counts and prints the answers that are not the ones that are due. */
final class Check {
    private static int made = 0;
    private static int wrong = 0;
    private static int sentences = 0;
    private static String sentence = "";
    private static final int PRINTED = 40;

    private Check() {
    }

    /** What follows tests this sentence of the document; a wrong answer is printed with it. */
    static void sentence(String promises, String quoted) {
        sentences++;
        sentence = promises + " \"" + quoted + "\": ";
    }

    static void due(String call, long got, long want) {
        made++;
        if (got != want) {
            wrong++;
            if (wrong <= PRINTED) {
                System.out.println(sentence + call + " answered " + got + ", due is " + want);
            }
        }
    }

    static void holds(String claim, boolean truth) {
        due(claim, truth ? 1 : 0, 1);
    }

    static int wrongAnswers() {
        return wrong;
    }

    /** Ends the test's process: with code 1 if an answer was wrong, or if nothing was checked at all. */
    static void end() {
        String of = sentences == 0 ? "" : " of " + sentences + " sentences";
        System.out.println(made + " answers" + of + " checked, " + wrong + " wrong");
        System.exit(wrong == 0 && made > 0 ? 0 : 1);
    }
}
