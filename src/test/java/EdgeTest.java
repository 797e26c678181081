import java.io.IOException;
import java.nio.file.Path;

/** Each sentence of DOC.md that names a boundary case, with a test of its own, and that none is left out. */
public final class EdgeTest {
    public static void main(String[] args) throws IOException {
        EdgesOfTold.run();
        EdgesOfClocks.run();
        EdgesOfDays.run();
        EdgesOfHours.run();
        EdgesOfTapes.run();
        EdgesOfContracts.run();
        EdgesOfSending.run();
        EdgesOfWires.run();
        EdgesOfHands.run();
        EdgesOfEvenings.run();
        EdgesOfImages.run();
        Edge.cover(Path.of("../shared/DOC.md"));
        Due.finish();
    }
}
