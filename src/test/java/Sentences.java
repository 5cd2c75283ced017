import java.io.IOException;
import java.nio.file.Path;

/** Runs a test for each sentence of the document, and sees to it that none is left without one. */
final class Sentences {
    private static final int PROMISES = 27;

    private final Document document;
    private String part = "";

    Sentences() throws IOException {
        document = new Document(Path.of("../shared/DOC.md"));
    }

    /** The sentences that follow stand in this part of the document. */
    void in(String name) {
        part = name;
    }

    void says(String words, Runnable test) {
        Check.at(part + ", \"" + words + "\"");
        Check.holds("the document says so", document.quote(part, words));
        int before = Check.asked();
        test.run();
        Check.holds("something was asked", Check.asked() > before);
        Check.at("");
    }

    /** Words that only name what follows. */
    void heading(String words) {
        Check.at(part);
        Check.holds("the document says " + words, document.quote(part, words));
        Check.at("");
    }

    void allHaveATest() {
        Check.due("promises", document.promises(), PROMISES);
        document.unquoted().forEach((name, words) -> Check.holds(name + " has no test for: " + words, false));
    }
}
