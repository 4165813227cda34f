import java.io.IOException;

/** Each boundary case that the document names, as a test of its own; and that no sentence is left without one. */
public final class EdgesTest {
    public static void main(String[] args) throws IOException {
        if (!allHold()) {
            System.exit(1);
        }
    }

    static boolean allHold() throws IOException {
        Edges t = new Edges();
        EdgesOfTexts.all(t);
        EdgesOfCarrying.all(t);
        EdgesOfDeeds.all(t);
        EdgesOfWays.all(t);
        EdgesOfCompany.all(t);
        EdgesOfRims.all(t);
        EdgesOfGames.all(t);
        EdgesOfTrays.all(t);
        return t.end();
    }
}
