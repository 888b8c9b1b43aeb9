import java.io.IOException;

/** Each sentence of the terms and of promises 1 to 20 has a test of its own, which is told with it. */
public final class SentencesTest {
    public static void main(String[] args) throws IOException {
        Document document = new Document();
        PageSentences.tell(document);
        TemplateSentences.tell(document);
        RateSentences.tell(document);
        InvoiceSentences.tell(document);
        WritingSentences.tell(document);
        NoteSentences.tell(document);
        ExceptionSentences.tell(document);
        document.allIsHeld();
        Checks.end("SentencesTest");
    }
}
