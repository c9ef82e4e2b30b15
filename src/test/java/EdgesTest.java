import java.io.IOException;

/** Each sentence of the document that names an edge, quoted, with checks of its own. */
public final class EdgesTest {
    public static void main(String[] args) throws IOException {
        EdgesOfMakes.check();
        EdgesOfText.check();
        EdgesOfRows.check();
        EdgesOfRuns.check();
        EdgesOfChances.check();
        EdgesOfJourneys.check();
        EdgesOfShares.check();
        EdgesOfClocks.check();
        EdgesOfRefusals.check();
        EdgesOfOrders.check();
        Doc.end();
        Due.end();
    }
}
