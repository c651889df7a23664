/** Every sentence of the document that names a boundary, each held by a test of its own that quotes it. */
public final class EdgesTest {
    public static void main(String[] args) {
        Sentences doc = new Sentences();
        Edges[] parts = {new RefusalEdges(doc), new ItemEdges(doc), new PageEdges(doc), new RoadEdges(doc),
            new BookEdges(doc), new TuneEdges(doc), new LikenessEdges(doc), new WorthEdges(doc), new GateEdges(doc),
            new WouldBeEdges(doc), new SeenEdges(doc), new FairEdges(doc), new ImageEdges(doc), new CountEdges(doc)};
        for (Edges part : parts) {
            part.hold();
        }
        doc.end();
    }
}
