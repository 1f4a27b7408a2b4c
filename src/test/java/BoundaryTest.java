import java.io.IOException;

/** Each sentence of the document that names a boundary case, as a test of its own that bears the sentence as its name. */
public final class BoundaryTest {
    private BoundaryTest() {
    }

    public static void main(String[] args) throws IOException {
        Checks.readDocument();
        TermsBoundaries.all();
        SourcesBoundaries.all();
        FractionsBoundaries.all();
        RoundsBoundaries.all();
        Checks.everyPromise();
        if (!Checks.end("boundaries")) {
            System.exit(1);
        }
    }
}
