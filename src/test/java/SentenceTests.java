import java.io.IOException;

/** For each sentence of the document a test of its own: ordinary inputs, the edges, and wrong inputs. */
public final class SentenceTests {
    private SentenceTests() {
    }

    public static void main(String[] args) throws IOException {
        Check.mustEndWithin(120);
        Sentences doc = new Sentences();
        TermSentences.tell(doc);
        TextSentences.tell(doc);
        UnitSentences.tell(doc);
        WalkSentences.tell(doc);
        ReachSentences.tell(doc);
        WordSentences.tell(doc);
        doc.allHaveATest();
        Check.end("SentenceTests");
    }
}
