import java.io.IOException;
import java.nio.file.Path;

/**
 * Each sentence of the document has a test of its own here, that quotes it: at the edges that it
 * names and one step beyond, with what later calls show of the state. A sentence that no test quotes
 * fails the run.
 */
public final class EdgesTest {
    public static void main(String[] args) throws IOException {
        Check c = new Check("EdgesTest");
        Edges e = new Edges(c, new Sentences(Path.of("../shared/DOC.md")));
        MembersEdges.run(e);
        PriceEdges.run(e);
        OffersEdges.run(e);
        MotionsEdges.run(e);
        HistoryEdges.run(e);
        c.end();
    }
}
