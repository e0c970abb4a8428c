import java.io.IOException;

/** For each sentence of the document's terms and promises a test that bears its name. */
public final class SentencesTest {
    public static void main(String[] args) throws IOException {
        PersonSentences.test();
        MachineSentences.test();
        ChangeSentences.test();
        SettingSentences.test();
        ExceptionSentences.test();
        Sentences.compareWithDocument();
        Check.end("SentencesTest");
    }
}
