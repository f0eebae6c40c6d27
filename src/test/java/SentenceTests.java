import java.io.IOException;

/** For each sentence of the document a test of its own. */
public final class SentenceTests {
    private SentenceTests() {
    }

    public static void main(String[] args) throws IOException {
        Sentences.readDocument();
        TermsSentences.all();
        RefusedSentences.all();
        TableSentences.all();
        QuestionSentences.all();
        WeavingSentences.all();
        ChangeSentences.all();
        BoundSentences.all();
        RingSentences.all();
        Sentences.end();
    }
}
