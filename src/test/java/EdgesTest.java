import java.io.IOException;

/** Boundary cases: the sentences of the document that name one, quoted, each with calls that would show it broken. */
final class EdgesTest {
    private EdgesTest() {
    }

    public static void main(String[] args) throws IOException {
        Edges edges = new Edges();
        RefusalEdges.run(edges);
        FaultEdges.run(edges);
        TextEdges.run(edges);
        SolsticeEdges.run(edges);
        ReadingEdges.run(edges);
        SheetEdges.run(edges);
        edges.end();
    }
}
