import java.io.IOException;
import java.util.List;
import java.util.Map;

/** A test for each sentence of the document, at its boundaries; and that no sentence is without a test. */
public final class BoundariesTest extends Boundary {
    private BoundariesTest() {
    }

    public static void main(String[] args) throws IOException {
        CircuitBoundaries.run();
        TextBoundaries.run();
        ActionBoundaries.run();
        ContentBoundaries.run();
        UndoBoundaries.run();
        SteadyBoundaries.run();
        LoopBoundaries.run();
        SearchBoundaries.run();
        MeasurementBoundaries.run();
        DisturbBoundaries.run();
        SlotBoundaries.run();
        ExceptionBoundaries.run();
        everySentenceHasATest();
        CHECK.end();
    }

    private static void everySentenceHasATest() throws IOException {
        CHECK.part("the document");
        if (!Document.isThere()) {
            System.out.println("the document is not here: its sentences are not compared");
            return;
        }
        int sentences = 0;
        for (Map.Entry<Integer, List<String>> section : new Document().sentences().entrySet()) {
            for (String sentence : section.getValue()) {
                sentences++;
                String key = key(section.getKey(), sentence);
                CHECK.isTrue("a test of its own for " + key, named().remove(key));
            }
        }
        CHECK.isTrue("the document has sentences", sentences > 0);
        CHECK.isTrue("each tested sentence stands in the document: " + named(), named().isEmpty());
    }
}
