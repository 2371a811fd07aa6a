import java.io.IOException;

/** All promises, and the terms: each sentence of the document, with the boundary cases that it names. */
public final class SentencesTest {
    private SentencesTest() {
    }

    public static void main(String[] args) throws IOException {
        Sentences doc = new Sentences();
        new TermSentences(doc).run();
        new WalkSentences(doc).run();
        new TextSentences(doc).run();
        new ErrorSentences(doc).run();
        new ChangeSentences(doc).run();
        new PartSentences(doc).run();
        new AnswerSentences(doc).run();
        doc.end();
    }
}
