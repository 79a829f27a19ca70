import java.util.List;

/** Compares answers with those that are due, and tells the wrong ones at the end. */
final class Due {
    private final String about;
    private int right = 0;
    private int wrong = 0;

    Due() {
        this("");
    }

    /** With what is told ahead of each wrong answer. */
    Due(String about) {
        this.about = about;
    }

    void is(String call, long got, long want) {
        if (got == want) {
            right++;
            return;
        }
        wrong++;
        System.out.println(about + call + " answered " + got + ", due is " + want);
    }

    /** Compares all that two objects told; of what they told otherwise, the first line is shown. */
    void same(String what, List<String> got, List<String> want) {
        int line = 0;
        while (line < got.size() && line < want.size() && got.get(line).equals(want.get(line))) {
            line++;
        }
        if (line == got.size() && line == want.size()) {
            right++;
            return;
        }
        wrong++;
        String is = line < got.size() ? got.get(line) : "nothing more";
        String due = line < want.size() ? want.get(line) : "nothing more";
        System.out.println(about + what + ": " + is + ", due is: " + due);
    }

    int right() {
        return right;
    }

    int wrong() {
        return wrong;
    }

    /** Ends the test: with exit code 1 if any answer was wrong. */
    void end() {
        System.out.println(right + " answers as due, " + wrong + " not");
        if (wrong != 0 || right == 0) {
            System.exit(1);
        }
    }

    static void typeAll(KeyGraves x, String text) {
        x.clearText();
        for (int i = 0; i < text.length(); i++) {
            x.type(text.charAt(i));
        }
    }
}
