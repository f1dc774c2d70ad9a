import java.io.IOException;
import java.nio.file.Path;

/** Each sentence of the document that names a boundary case, by its promise. */
public final class SentenceTest {
    private SentenceTest() {
    }

    public static void main(String[] args) throws IOException {
        TextSentences.ask();
        WishSentences.ask();
        PlaceSentences.ask();
        MendSentences.ask();
        ApartSentences.ask();
        ActSentences.ask();
        RefusedSentences.ask();
        Sentence.lookUp(Path.of("../shared/DOC.md"));
        Check.finish("SentenceTest");
    }
}
