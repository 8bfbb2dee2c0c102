import java.io.IOException;
import java.nio.file.Path;

/** Each sentence of the document that names an edge, with the calls that show that it holds. */
public final class EdgesTest {
    public static void main(String[] args) throws IOException {
        EdgeTerms.run();
        EdgeRefusals.run();
        EdgeRows.run();
        EdgeTexts.run();
        EdgePeople.run();
        EdgeHome.run();
        EdgeBook.run();
        EdgeAsks.run();
        Sentences.dueInDocument(Path.of("../shared/DOC.md"));
        Due.end();
    }
}
