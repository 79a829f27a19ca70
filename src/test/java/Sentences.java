import java.util.ArrayList;
import java.util.List;
import java.util.function.Consumer;

/**
 * The sentences of the document, word for word, each with the test that would fail if it were
 * broken, or with the reason why there is none.
 */
final class Sentences {
    /** A sentence, or a part of one, in a section of the document: "Terms", "Promise 7". */
    record Sentence(String section, String words, Consumer<Due> test, String reason) {
        boolean isTested() {
            return test != null;
        }

        String name() {
            return section + ", \"" + words + "\"";
        }
    }

    private final List<Sentence> all = new ArrayList<>();
    private String section = "";

    static Sentences ofTheDocument() {
        Sentences sentences = new Sentences();
        NodesTerms.tell(sentences);
        GravesTerms.tell(sentences);
        PlansTerms.tell(sentences);
        HistoryTerms.tell(sentences);
        SettingsPromises.tell(sentences);
        WritesPromises.tell(sentences);
        RepairsPromises.tell(sentences);
        PlansPromises.tell(sentences);
        HistoryPromises.tell(sentences);
        ToldPromises.tell(sentences);
        CountsPromises.tell(sentences);
        return sentences;
    }

    List<Sentence> all() {
        return all;
    }

    /** The section in which the sentences that are told next stand. */
    Sentences in(String name) {
        section = name;
        return this;
    }

    Sentences test(String words, Consumer<Due> test) {
        all.add(new Sentence(section, words, test, ""));
        return this;
    }

    /** A sentence that no test can look at. */
    Sentences untested(String words, String reason) {
        all.add(new Sentence(section, words, null, reason));
        return this;
    }
}
