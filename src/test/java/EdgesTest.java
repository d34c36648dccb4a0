import java.io.IOException;
import java.nio.file.Path;

/**
 * Each sentence of the document that names an edge, quoted in its own words: too small, too large, empty, full,
 * what wraps, what is refused. Every word of the terms and the promises must be quoted by some test.
 */
public final class EdgesTest {
    public static void main(String[] args) throws IOException {
        Checks.readDocument(Path.of(System.getProperty("document", "../shared/DOC.md")));
        RoomEdges.all();
        TextEdges.all();
        SaleEdges.all();
        ThoughtEdges.all();
        PastEdges.all();
        Checks.finish();
    }
}
