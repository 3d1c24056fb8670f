/** All promises: a case for each sentence of the document, above all for those that name a boundary. */
public final class EdgesTest {
    public static void main(String[] args) throws java.io.IOException {
        Edges edges = new Edges();
        PictureEdges.all(edges);
        NoteEdges.all(edges);
        WriteEdges.all(edges);
        DataEdges.all(edges);
        ComingEdges.all(edges);
        MarkEdges.all(edges);
        ReadEdges.all(edges);
        AnswerEdges.all(edges);
        TermEdges.all(edges);
        edges.end();
    }
}
