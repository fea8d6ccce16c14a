import java.io.IOException;

/** The sentences of the document that name an edge: each has a test of its own. */
public final class EdgesTest {
    public static void main(String[] args) throws IOException {
        Checks checks = new Checks();
        Sentences sentences = new Sentences();
        Edges[] groups = {new SlopeEdges(checks, sentences), new RowEdges(checks, sentences),
            new StretchEdges(checks, sentences), new PointEdges(checks, sentences), new NumberEdges(checks, sentences),
            new HostEdges(checks, sentences), new TermRules(checks, sentences)};
        for (Edges group : groups) {
            group.run();
            group.end();
        }
        for (int promise = 0; promise <= sentences.promises(); promise++) {
            checks.holds("promise " + promise + " has a test of an edge", sentences.isQuoted(promise));
        }
        checks.end();
    }
}
