import java.io.IOException;

/** Each sentence of the document that names an edge (too small, too large, empty, full, wrapped around, refused). */
public final class EdgesTest {
    public static void main(String[] args) throws IOException {
        Sentences s = new Sentences();
        new TermsEdges(s).run();
        new RowsEdges(s).run();
        new ToldEdges(s).run();
        new DoneEdges(s).run();
        new ForetoldEdges(s).run();
        new AskedEdges(s).run();
        s.end("EdgesTest");
    }
}
