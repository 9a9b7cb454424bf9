/** Every sentence of the document that names a boundary, on it and one step beyond it; each by runs on new objects. */
public final class EdgesTest {
    private EdgesTest() {
    }

    public static void main(String[] args) throws java.io.IOException {
        Held held = new Held();
        FileEdges.all(held);
        FormatEdges.all(held);
        TextEdges.all(held);
        ReadingEdges.all(held);
        WouldBeEdges.all(held);
        PlansEdges.all(held);
        TapesEdges.all(held);
        held.end();
    }
}
