/** Counts answers under the sentence of the document that asks for them, and prints those that are not due. */
final class Check {
    private static String sentence = "";
    private static int right = 0;
    private static int wrong = 0;
    private static int sentences = 0;
    private static int before = 0;

    private Check() {
    }

    /** The answers that follow are those that these words of the document ask for. */
    static void sentence(String where, String words) {
        endSentence();
        sentence = where + ": '" + words + "'";
        sentences++;
        before = right + wrong;
        System.out.println("  " + sentence);
    }

    static void due(String call, long got, long want) {
        if (got == want) {
            right++;
            return;
        }
        wrong++;
        System.out.println(sentence + ": " + call + " answered " + got + ", due is " + want);
    }

    static void holds(String what, boolean truth) {
        due(what, truth ? 1 : 0, 1);
    }

    /** A sentence whose answers were never looked at is not tested. */
    private static void endSentence() {
        if (sentences > 0 && right + wrong == before) {
            wrong++;
            System.out.println(sentence + ": no answer was looked at");
        }
    }

    /** The last line of every test's main method. */
    static void end() {
        endSentence();
        System.out.println("  " + sentences + " sentences, " + right + " answers as due, " + wrong + " not");
        if (wrong != 0 || right == 0 || sentences == 0) {
            System.exit(1);
        }
    }
}
