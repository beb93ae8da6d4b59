import java.io.IOException;

/** The document, sentence by sentence: each boundary case that it names has a run of its own. */
public final class BoundariesTest {
    public static void main(String[] args) throws IOException {
        Sentences sentences = new Sentences();
        new TermsBoundaries(sentences).tell();
        new VisitBoundaries(sentences).tell();
        new FormingBoundaries(sentences).tell();
        new CallBoundaries(sentences).tell();
        new QueryBoundaries(sentences).tell();
        sentences.end();
    }
}
