/** The example of README.md: two cells in a loop, from an empty circuit to a simulation. */
public final class Example {
    public static void main(String[] args) {
        FlotationCircuit x = new FlotationCircuit();

        // Cell 0 sends half of the metal and a tenth of the gangue on to cell 1, the rest to the final tailings.
        x.addCell(50, 10, 1, FlotationCircuit.FINAL_TAILINGS);
        // Cell 1 cleans that: its concentrate is a product, its tailings return to cell 0.
        x.addCell(50, 10, FlotationCircuit.FINAL_CONCENTRATE, 0);

        System.out.println("total recovery: " + x.totalRecovery() + " thousandths");
        System.out.println("grade: " + x.grade() + " thousandths");
        System.out.println("metal into cell 0: " + x.flowNumerator(0, 0) + " / " + x.flowDenominator(0, 0));
        System.out.println("loops: " + x.loopCount());
        System.out.println("cell best improved: " + x.bestImprovement());
        System.out.println("recovery of cell 1 for a total of 400: " + x.recoveryFor(1, 400));

        System.out.println("metal won in ten steps: " + x.step(10));
        System.out.println("states still remembered after undo: " + x.undo());
        System.out.println("metal won then: " + x.amount(FlotationCircuit.FINAL_CONCENTRATE, 0));

        try {
            x.setRecovery(2, 0, 60);
        } catch (IndexOutOfBoundsException e) {
            System.out.println("there is no cell 2");
        }
    }
}
