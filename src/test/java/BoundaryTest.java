/** Each sentence of the document that names a boundary case, by a test of its own. */
public final class BoundaryTest {
    public static void main(String[] args) throws Exception {
        Edges edges = new Edges();
        new MapEdges(edges).run();
        new ActEdges(edges).run();
        new AskEdges(edges).run();
        new GameEdges(edges).run();
        new ChoiceEdges(edges).run();
        new WholeEdges(edges).run();
        edges.end("BoundaryTest");
    }
}
