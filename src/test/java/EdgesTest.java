import java.nio.file.Path;

/**
 * The document sentence by sentence: each has a test of its own, which names it. A sentence that no test names, or a
 * test that names what the document does not say, is a fault too.
 */
public final class EdgesTest {
    private EdgesTest() {
    }

    public static void main(String[] args) throws Exception {
        run().end();
    }

    static Due run() throws Exception {
        Edge edge = new Edge(new Doc(Path.of("../shared/DOC.md")));
        new EdgesOfTerms(edge).run();
        new EdgesOfShip(edge).run();
        new EdgesOfMonths(edge).run();
        new EdgesOfNews(edge).run();
        new EdgesOfSheets(edge).run();
        edge.everyWordIsNamed();
        return edge.due();
    }
}
