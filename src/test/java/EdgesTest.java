import java.io.IOException;
import java.nio.file.Path;

/** Each sentence of DOC.md that names a boundary case has a test of its own; which ones have none is told, too. */
public final class EdgesTest {
    public static void main(String[] args) throws IOException {
        Check check = new Check();
        Document document = new Document(check, Path.of("../shared/DOC.md"));
        new TextEdges(check, document).all();
        new ActEdges(check, document).all();
        new QuestionEdges(check, document).all();
        new SeenEdges(check, document).all();
        document.isNamedWhole();
        check.finish();
    }
}
