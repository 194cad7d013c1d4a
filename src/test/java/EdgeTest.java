import java.io.IOException;

/**
 * For each passage of the document that names a boundary a test of its own; it fails too if the
 * document has such a passage that none of these tests quotes.
 */
public final class EdgeTest {
    public static void main(String[] args) throws IOException {
        Edges.document = new Document();
        TermEdges.all();
        WheelEdges.all();
        TurnEdges.all();
        FittingEdges.all();
        BookEdges.all();
        ShopEdges.all();
        PlateEdges.all();
        SkyEdges.all();
        WordEdges.all();
        DialEdges.all();
        LeftEdges.all();
        RefusalEdges.all();
        Bench.about = "the document";
        Bench.due(51, Edges.document.promises());
        for (String passage : Edges.document.unquoted()) {
            Bench.due("a test of it", passage);
        }
        Bench.close();
    }
}
