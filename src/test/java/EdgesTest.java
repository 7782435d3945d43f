import java.io.IOException;
import java.nio.file.Path;

/**
 * The edges that the document names, sentence by sentence: the last that is taken, the first that is
 * refused, and that a refused call changes nothing. A sentence of the document without a test fails.
 */
public final class EdgesTest {
    public static void main(String[] args) throws IOException {
        Doc.load(Path.of(System.getProperty("rope.doc")));
        TermsEdges.run();
        ActsEdges.run();
        TextEdges.run();
        RopesEdges.run();
        CallsEdges.run();
        HoursEdges.run();
        BestEdges.run();
        SheetsEdges.run();
        ImagesEdges.run();
        Doc.end();
        Due.end();
    }
}
