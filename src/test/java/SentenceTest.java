import java.io.IOException;

/** Each sentence of the document that names a limit, a boundary or a refusal, by a test of its own. */
public final class SentenceTest {
    public static void main(String[] args) throws IOException {
        Sentences is = new Sentences();
        TownSentences.all(is);
        HourSentences.all(is);
        RefusalSentences.all(is);
        StreetSentences.all(is);
        OrganSentences.all(is);
        PassSentences.all(is);
        AheadSentences.all(is);
        is.end();
        Check.end("SentenceTest");
    }
}
