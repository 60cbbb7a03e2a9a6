import java.util.List;
import java.util.StringJoiner;

/** The document's five examples, made from their text as it is printed. */
public final class ExamplesTest {
    private static final Check CHECK = new Check();

    private static final int[] CALLS = {7, 7, 5, 4, 6};

    private static final String PRINTED = """
            Examples: Each of them begins with a new object; the results are given behind the calls.
            1. One cell: steady state and simulation: addCell(80, 20, 8, 9) = 0; totalRecovery() = 800; grade() = 307;
            flowNumerator(0, 1) = 900; step(2) = 80; amount(9, 0) = 20; content(0, 0) = 100.
            2. Two cells in a loop: addCell(50, 10, 1, 9) = 0; addCell(50, 10, 8, 0) = 1; flowNumerator(0, 0) = 400;
            flowDenominator(0, 0) = 3; totalRecovery() = 333; loopCount() = 1; bestShutdown() = 0.
            3. A cell that returns everything to itself has no steady state: addCell(50, 50, 0, 0) = 0;
            hasSteadyState() = false; totalRecovery() = throws IllegalStateException; step(3) = 0; content(0, 1) = 2700.
            4. Without cells, the feed goes to the final tailings: flowNumerator(9, 0) = 100; recovery(0, 0) = throws
            IndexOutOfBoundsException; bestImprovement() = -9; grade() = 0.
            5. A text with a wrong character: append(70) = 1; append(48) = 2; append(49) = 3; append(88) = 4;
            errorPosition() = 3; load() = throws IllegalStateException.
            """;

    public static void main(String[] args) throws Exception {
        CHECK.part("the examples");
        if (Document.isThere()) {
            CHECK.isTrue("the examples stand in the document as they are printed here", Document.examples().equals(PRINTED));
        }
        String[] examples = PRINTED.split("(?m)^(?=\\d\\. )");
        CHECK.due("the number of examples", examples.length - 1, CALLS.length);
        for (int i = 1; i < examples.length; i++) {
            makeCalls(i, Document.plain(examples[i]));
        }
        CHECK.end();
    }

    private static void makeCalls(int number, String example) throws Exception {
        CHECK.part("example " + number);
        List<PrintedCall> calls = PrintedCall.in(example);
        CHECK.due("the number of calls", calls.size(), CALLS[number - 1]);
        StringJoiner read = new StringJoiner("; ", ": ", ".");
        FlotationCircuit x = new FlotationCircuit();
        for (PrintedCall call : calls) {
            read.add(call.printed());
            String answer = call.answerOf(x);
            CHECK.isTrue(call.printed() + " (answered: " + answer + ")", answer.equals(call.due()));
        }
        CHECK.isTrue("each call of the example was read", example.endsWith(read.toString()));
    }
}
