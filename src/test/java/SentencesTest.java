/** Each sentence of the document that names a boundary case, with the test of it. */
public final class SentencesTest {
    public static void main(String[] args) {
        int hold = 0;
        int broken = 0;
        for (Sentences.Sentence each : Sentences.ofTheDocument().all()) {
            if (!each.isTested()) {
                continue;
            }
            Due due = new Due("BROKEN " + each.name() + ": ");
            each.test().accept(due);
            if (due.wrong() == 0 && due.right() > 0) {
                hold++;
                System.out.println("holds " + each.name());
            } else {
                broken++;
                System.out.println("BROKEN " + each.name() + ": " + due.wrong() + " wrong of "
                    + (due.right() + due.wrong()));
            }
        }
        System.out.println(hold + " sentences hold, " + broken + " are broken");
        if (broken != 0 || hold == 0) {
            System.exit(1);
        }
    }
}
