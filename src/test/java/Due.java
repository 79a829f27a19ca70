/** Compares answers with those that are due, and tells the wrong ones at the end. */
final class Due {
    private int right = 0;
    private int wrong = 0;

    void is(String call, long got, long want) {
        if (got == want) {
            right++;
            return;
        }
        wrong++;
        System.out.println(call + " answered " + got + ", due is " + want);
    }

    /** Ends the test: with exit code 1 if any answer was wrong. */
    void end() {
        System.out.println(right + " answers as due, " + wrong + " not");
        if (wrong != 0 || right == 0) {
            System.exit(1);
        }
    }

    static void typeAll(KeyGraves x, String text) {
        x.clearText();
        for (int i = 0; i < text.length(); i++) {
            x.type(text.charAt(i));
        }
    }
}
