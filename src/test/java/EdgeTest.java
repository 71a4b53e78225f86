import java.io.IOException;
import java.nio.file.Files;
import java.nio.file.Path;

/** Each sentence of the document that names a boundary has its own test here, under its promise; run from the root. */
public final class EdgeTest {
    public static void main(String[] args) throws IOException {
        Edges edge = new Edges(Files.readString(Path.of("../shared/DOC.md")));
        EdgesOfProgram.look(edge);
        EdgesOfOps.look(edge);
        EdgesOfRuns.look(edge);
        EdgesOfView.look(edge);
        EdgesOfHistory.look(edge);
        EdgesOfSearch.look(edge);
        EdgesOfShelves.look(edge);
        EdgesOfRefusals.look(edge);
        edge.close();
    }
}
