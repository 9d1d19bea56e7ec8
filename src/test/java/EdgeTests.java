/** Each sentence of the document that names an edge, with a test of its own. */
public final class EdgeTests {
    private EdgeTests() {
    }

    public static void main(String[] args) {
        NetEdges.run();
        ProofEdges.run();
        DiagramEdges.run();
        WordEdges.run();
        CareEdges.run();
        StateEdges.run();
        if (!Edges.areAllRight()) {
            System.exit(1);
        }
    }
}
