/** All promises: the boundary cases that the document names, a test for each sentence. */
public final class EdgesTest {
    public static void main(String[] args) throws java.io.IOException {
        Edges edges = new Edges();
        PictureEdges.all(edges);
        NoteEdges.all(edges);
        WriteEdges.all(edges);
        DataEdges.all(edges);
        ComingEdges.all(edges);
        MarkEdges.all(edges);
        ReadEdges.all(edges);
        AnswerEdges.all(edges);
        edges.end();
    }
}
