import java.io.IOException;

/**
 * Each sentence of the document that names a boundary case, held to a run of calls of its own. What
 * goes wrong is told with the promise's number and the sentence.
 */
public final class BoundaryTest {
    private BoundaryTest() {
    }

    public static void main(String[] args) throws IOException {
        Sentences sentences = new Sentences();
        BoundsOfTables.hold(sentences);
        BoundsOfLaws.hold(sentences);
        BoundsOfParts.hold(sentences);
        BoundsOfClues.hold(sentences);
        if (!sentences.allHeld()) {
            System.exit(1);
        }
    }
}
