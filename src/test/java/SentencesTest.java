import java.io.IOException;
import java.util.List;

/** Each sentence of the document has a test of its own, and none is left without one. */
public final class SentencesTest {
    private SentencesTest() {
    }

    public static void main(String[] args) throws IOException {
        run();
        Check.finish();
    }

    static void run() throws IOException {
        Doc.read();
        TermSentences.run();
        ChangeSentences.run();
        SetUpSentences.run();
        MoveSentences.run();
        TextSentences.run();
        // RulesTest looks at the face; what is not promised has no test.
        Doc.allIsQuoted(List.of("What it is", "The public face", "Not promised"));
    }
}
