import java.io.IOException;
import java.nio.file.Files;
import java.nio.file.Path;

/** Each sentence of the document at its bounds; the runs stand in src/test/edges. Run from the root of the project. */
public final class EdgesTest {
    private EdgesTest() {
    }

    public static void main(String[] args) throws IOException {
        TownEdges.ask();
        TapeEdges.ask();
        LawEdges.ask();
        WayEdges.ask();
        WantEdges.ask();
        FloodEdges.ask();
        ChangeEdges.ask();
        Path document = Path.of("../shared/DOC.md");
        if (Files.exists(document)) {
            Edge.compareWith(document);
        } else {
            System.out.println("there is no " + document + " to compare the sentences with");
        }
        int wrong = Edge.wrongAnswers();
        System.out.println(wrong == 0 ? Edge.answers() + " answers at the edges are as due" : wrong + " answers are not as due");
        if (wrong != 0) {
            System.exit(1);
        }
    }
}
