import java.io.IOException;

/**
 * Each sentence of the document: those that name an edge (too small, too large, empty, full, wrapped around, refused),
 * and the plain ones; a word that no check quotes is told at the end.
 */
public final class SentencesTest {
    public static void main(String[] args) throws IOException {
        Sentences s = new Sentences();
        new TermsEdges(s).run();
        new RowsEdges(s).run();
        new ToldEdges(s).run();
        new DoneEdges(s).run();
        new ForetoldEdges(s).run();
        new AskedEdges(s).run();
        new PlainSentences(s).run();
        s.end("SentencesTest");
    }
}
