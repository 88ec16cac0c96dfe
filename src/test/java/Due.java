/** Counts answers that are as due and prints those that are not. */
final class Due {
    private static int right = 0;
    private static int wrong = 0;
    private static String sentence = "";

    private Due() {
    }

    /** Names the sentence of the document that the next answers are about. */
    static void about(String words) {
        sentence = "[" + words + "] ";
    }

    static void due(String call, long got, long want) {
        if (got == want) {
            right++;
            return;
        }
        wrong++;
        System.out.println(sentence + call + " answered " + got + ", due is " + want);
    }

    /** Types a text behind the one that is there. */
    static void typeAll(GlassRacks x, String text) {
        for (int i = 0; i < text.length(); i++) {
            x.type(text.charAt(i));
        }
    }

    /** Puts a text in place of the one that is there, and performs it. */
    static int performed(GlassRacks x, String text) {
        x.clearText();
        typeAll(x, text);
        return x.perform();
    }

    static void finish() {
        System.out.println(right + " answers as due, " + wrong + " not");
        if (wrong != 0 || right == 0) {
            System.exit(1);
        }
    }
}
