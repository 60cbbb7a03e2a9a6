/** The five examples of the document. */
public final class ExamplesTest {
    private static final Check CHECK = new Check();

    public static void main(String[] args) {
        oneCell();
        twoCellsInALoop();
        noSteadyState();
        noCells();
        wrongText();
        CHECK.end();
    }

    private static void oneCell() {
        CHECK.part("example 1");
        FlotationCircuit x = new FlotationCircuit();
        CHECK.due("addCell(80, 20, 8, 9)", x.addCell(80, 20, 8, 9), 0);
        CHECK.due("totalRecovery()", x.totalRecovery(), 800);
        CHECK.due("grade()", x.grade(), 307);
        CHECK.due("flowNumerator(0, 1)", x.flowNumerator(0, 1), 900);
        CHECK.due("step(2)", x.step(2), 80);
        CHECK.due("amount(9, 0)", x.amount(9, 0), 20);
        CHECK.due("content(0, 0)", x.content(0, 0), 100);
    }

    private static void twoCellsInALoop() {
        CHECK.part("example 2");
        FlotationCircuit x = new FlotationCircuit();
        CHECK.due("addCell(50, 10, 1, 9)", x.addCell(50, 10, 1, 9), 0);
        CHECK.due("addCell(50, 10, 8, 0)", x.addCell(50, 10, 8, 0), 1);
        CHECK.due("flowNumerator(0, 0)", x.flowNumerator(0, 0), 400);
        CHECK.due("flowDenominator(0, 0)", x.flowDenominator(0, 0), 3);
        CHECK.due("totalRecovery()", x.totalRecovery(), 333);
        CHECK.due("loopCount()", x.loopCount(), 1);
        CHECK.due("bestShutdown()", x.bestShutdown(), 0);
    }

    private static void noSteadyState() {
        CHECK.part("example 3");
        FlotationCircuit x = new FlotationCircuit();
        CHECK.due("addCell(50, 50, 0, 0)", x.addCell(50, 50, 0, 0), 0);
        CHECK.due("hasSteadyState()", x.hasSteadyState(), false);
        CHECK.dueThrow("totalRecovery()", IllegalStateException.class, () -> x.totalRecovery());
        CHECK.due("step(3)", x.step(3), 0);
        CHECK.due("content(0, 1)", x.content(0, 1), 2700);
    }

    private static void noCells() {
        CHECK.part("example 4");
        FlotationCircuit x = new FlotationCircuit();
        CHECK.due("flowNumerator(9, 0)", x.flowNumerator(9, 0), 100);
        CHECK.dueThrow("recovery(0, 0)", IndexOutOfBoundsException.class, () -> x.recovery(0, 0));
        CHECK.due("bestImprovement()", x.bestImprovement(), -9);
        CHECK.due("grade()", x.grade(), 0);
    }

    private static void wrongText() {
        CHECK.part("example 5");
        FlotationCircuit x = new FlotationCircuit();
        CHECK.due("append(70)", x.append(70), 1);
        CHECK.due("append(48)", x.append(48), 2);
        CHECK.due("append(49)", x.append(49), 3);
        CHECK.due("append(88)", x.append(88), 4);
        CHECK.due("errorPosition()", x.errorPosition(), 3);
        CHECK.dueThrow("load()", IllegalStateException.class, () -> x.load());
    }
}
