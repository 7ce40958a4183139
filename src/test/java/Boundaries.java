import java.io.IOException;
import java.nio.file.Path;

/** Each sentence of the document that names a boundary has a test; the first argument is the path of DOC.md. */
public final class Boundaries {
    public static void main(String[] args) throws IOException {
        Sentences.read(Path.of(args[0]));
        ArgumentBoundaries.go();
        BatchBoundaries.go();
        RecordBoundaries.go();
        MatchingBoundaries.go();
        TotalsBoundaries.go();
        TextBoundaries.go();
        UndoBoundaries.go();
        Sentences.checkThatAllAreThere();
        Checks.finish("Boundaries");
    }
}
