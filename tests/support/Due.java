/** Compares answers with those that are due, and counts the wrong ones. */
final class Due {
    private static String sentence = "";
    private static int answers = 0;
    private static int wrong = 0;

    private Due() {
    }

    /** What the answers from now on are about; told with each wrong one. */
    static void about(String newSentence) {
        sentence = newSentence;
    }

    static void compare(String what, String got, String want) {
        answers++;
        if (!got.equals(want)) {
            wrong++;
            System.out.println(sentence + "\n  " + what + " answered " + got + ", due is " + want);
        }
    }

    static void finish() {
        System.out.println(answers + " answers, " + wrong + " of them wrong");
        if (wrong != 0 || answers == 0) {
            System.exit(1);
        }
    }
}
