import java.io.IOException;

/**
 * Every sentence of the document's sections Terms and Promise 1 to 33, each with its edges: what is just inside
 * and just outside, what is empty and full, what is refused and found, and in which order.
 */
public final class EdgesTest {
    public static void main(String[] args) throws IOException {
        Edges edges = new Edges();
        EdgesOfTerms.tell(edges);
        EdgesOfTexts.tell(edges);
        EdgesOfDays.tell(edges);
        EdgesOfForesight.tell(edges);
        EdgesOfBodies.tell(edges);
        EdgesOfRowCalls.tell(edges);
        EdgesOfTownCalls.tell(edges);
        EdgesOfForetoldCalls.tell(edges);
        EdgesOfAskCalls.tell(edges);
        edges.close("EdgesTest");
    }
}
