import java.io.IOException;

/** The sentences of the document: each has a test of its own, those that name an edge and those that do not. */
public final class EdgesTest {
    public static void main(String[] args) throws IOException {
        Checks checks = new Checks();
        Sentences sentences = new Sentences();
        Edges[] groups = {new SlopeEdges(checks, sentences), new RowEdges(checks, sentences),
            new StretchEdges(checks, sentences), new PointEdges(checks, sentences), new NumberEdges(checks, sentences),
            new HostEdges(checks, sentences), new TermRules(checks, sentences)};
        for (Edges group : groups) {
            group.run();
            group.end();
        }
        for (int promise = 0; promise <= sentences.promises(); promise++) {
            String untested = sentences.unquoted(promise);
            checks.holds("promise " + promise + " without a test: " + untested, untested.isEmpty());
        }
        checks.end();
    }
}
