/** Each sentence of the document with its boundary cases: what is taken, what is refused, and that nothing changed. */
public final class EdgeTest {
    private EdgeTest() {
    }

    public static void main(String[] args) throws Exception {
        Edges edges = new Edges();
        new EdgeTerms(edges).all();
        new EdgeParts(edges).all();
        new EdgeTell(edges).all();
        new EdgeStand(edges).all();
        new EdgeSeen(edges).all();
        new EdgeSheet(edges).all();
        edges.end();
    }
}
