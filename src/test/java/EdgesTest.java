/** Each sentence of the document that names a boundary case, under its promise, with a test of its own. */
public final class EdgesTest {
    public static void main(String[] args) {
        TextEdges.all();
        ActEdges.all();
        AnswerEdges.all();
        LegEdges.all();
        EmptyEdges.all();
        Edge.end();
    }
}
