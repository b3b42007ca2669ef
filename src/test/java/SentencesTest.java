import java.io.IOException;

/** Each sentence of the document, with a test of its own that quotes it. */
public final class SentencesTest {
    public static void main(String[] args) throws IOException {
        FaceSentences.all();
        ShapeSentences.all();
        DomeSentences.all();
        ChangeSentences.all();
        SplittingSentences.all();
        HubsSentences.all();
        StrutsSentences.all();
        StockSentences.all();
        TextsSentences.all();
        Sentences.compareWithDocument();
        Check.end();
    }
}
