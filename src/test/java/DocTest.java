import java.io.IOException;
import java.nio.file.Files;
import java.nio.file.Path;
import java.util.BitSet;
import java.util.LinkedHashMap;
import java.util.Map;

/**
 * No sentence of the document is left out: each word of the terms and of the promises stands in the
 * words of a test, or in those of a sentence of which it is said why there is none.
 */
public final class DocTest {
    private static final Path DOC = Path.of("../shared/DOC.md");

    /** What is no sentence: how a method is written, list points, headings, "Returns". */
    private static final String BETWEEN_SENTENCES =
        "(?m)`(int \\w+|KeyGraves)\\([^`]*\\)`: |^- |^Returns |^[A-Z, ]+$";

    private final Due due = new Due();
    private final Map<String, String> texts = new LinkedHashMap<>();
    private final Map<String, BitSet> told = new LinkedHashMap<>();

    public static void main(String[] args) throws IOException {
        DocTest test = new DocTest();
        test.readSections(Files.readString(DOC));
        int tested = 0;
        for (Sentences.Sentence each : Sentences.ofTheDocument().all()) {
            test.find(each);
            tested += each.isTested() ? 1 : 0;
        }
        test.texts.forEach(test::lookForWordsLeftOut);
        System.out.println(tested + " sentences of " + test.texts.size() + " sections have a test");
        test.due.end();
    }

    private void readSections(String doc) {
        for (String part : doc.split("(?m)^## ")) {
            int end = part.indexOf('\n');
            String section = part.substring(0, Math.max(end, 0)).replaceAll(":.*", "").trim();
            if (section.matches("What it is|Terms|Promise \\d+")) {
                String text = part.substring(end).replaceAll(BETWEEN_SENTENCES, "\n");
                texts.put(section, text.replaceAll("\\s+", " ").trim());
                told.put(section, new BitSet());
            }
        }
        due.is("sections that were found", texts.size(), 28);
    }

    /** Marks the words wherever they stand in their section. */
    private void find(Sentences.Sentence sentence) {
        String text = texts.getOrDefault(sentence.section(), "");
        int at = text.indexOf(sentence.words());
        due.is(sentence.name() + " stands in the document: 1", at < 0 ? 0 : 1, 1);
        due.is(sentence.name() + " has a test or a reason: 1",
            sentence.isTested() || !sentence.reason().isEmpty() ? 1 : 0, 1);
        while (at >= 0) {
            int end = at + sentence.words().length();
            told.get(sentence.section()).set(at, end);
            at = text.indexOf(sentence.words(), end);
        }
    }

    private void lookForWordsLeftOut(String section, String text) {
        StringBuilder leftOut = new StringBuilder();
        for (int i = 0; i < text.length(); i++) {
            boolean left = !told.get(section).get(i) && Character.isLetterOrDigit(text.charAt(i));
            if (left) {
                leftOut.append(text.charAt(i));
            } else if (leftOut.length() > 0 && leftOut.charAt(leftOut.length() - 1) != ' ') {
                leftOut.append(' ');
            }
        }
        due.is("letters in " + section + " without a test, \"" + leftOut + "\",",
            leftOut.length(), 0);
    }
}
