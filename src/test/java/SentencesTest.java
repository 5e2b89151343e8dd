import java.io.IOException;

/** For each sentence of the document a run of its own, with the edges that it names and the calls that it refuses. */
public final class SentencesTest {
    private SentencesTest() {
    }

    public static void main(String[] args) throws IOException {
        Check check = new Check("SentencesTest");
        Quotes quotes = new Quotes(check);
        new TermsRuns(check, quotes).all();
        new PromiseRuns(check, quotes).all();
        quotes.finish();
        check.finish();
    }
}
