import java.io.IOException;
import java.nio.file.Path;

/** Each sentence of the document that names a boundary case, as a test of its own that bears the sentence as its name. */
public final class BoundaryTest {
    private BoundaryTest() {
    }

    public static void main(String[] args) throws IOException {
        Boundary.readDocument(Path.of(System.getProperty("shared", "../shared"), "DOC.md"));
        TermsBoundaries.all();
        SourcesBoundaries.all();
        FractionsBoundaries.all();
        RoundsBoundaries.all();
        if (!Boundary.end()) {
            System.exit(1);
        }
    }
}
