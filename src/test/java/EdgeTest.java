import java.io.IOException;

/** Each sentence of the document that names a boundary case, with a test of its own; the document's other words too. */
public final class EdgeTest {
    public static void main(String[] args) throws IOException {
        Edges e = new Edges();
        EdgesOfRing.all(e);
        EdgesOfTexts.all(e);
        EdgesOfComing.all(e);
        EdgesOfTurns.all(e);
        EdgesOfDeeds.all(e);
        EdgesOfAnswers.all(e);
        e.finish();
    }
}
