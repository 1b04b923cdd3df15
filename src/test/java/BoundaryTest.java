import java.io.IOException;
import java.nio.file.Files;
import java.nio.file.Path;

/** Each sentence of the document, the boundary cases that it names above all, has a test of its own that names it. */
public final class BoundaryTest {
    private BoundaryTest() { }

    public static void main(String[] args) throws IOException {
        WholeBoundaries.all();
        TextBoundaries.all();
        RunBoundaries.all();
        PacketBoundaries.all();
        RebuildBoundaries.all();
        Sentences.nameAll(27);
        Path document = Path.of(System.getProperty("document", "../shared/DOC.md"));
        if (Files.exists(document)) {
            Sentences.holdAgainst(document);
        } else {
            System.out.println("BoundaryTest: " + document + " is not there, its words were not looked at");
        }
        System.out.println("BoundaryTest: " + Sentences.size() + " sentences");
        Checks.close("BoundaryTest");
    }
}
