import java.util.Set;

/** Each sentence of the document that names an edge, with the checks that would fail if it were broken. */
public final class EdgesTest {
    /** These name no case of their own. */
    private static final Set<String> WITHOUT_TEST = Set.of("Suppose that some engines are available and the others are not.",
            "a: first four bytes", "e: last four bytes");

    public static void main(String[] args) throws Exception {
        Bench bench = new Bench();
        Edges edges = new Edges(bench);
        new TextEdges(edges).run();
        new CoverEdges(edges).run();
        new TimetableEdges(edges).run();
        new OrderEdges(edges).run();
        edges.closeDocument(WITHOUT_TEST);
        bench.close("EdgesTest");
    }
}
