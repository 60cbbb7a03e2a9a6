/** Promises 31 and 32, and what 'Description' says of measurements. */
final class MeasurementBoundaries extends Boundary {
    private MeasurementBoundaries() {
    }

    static void run() {
        measurementSays();
        measureStores();
        lastFiveAreStored();
        measureTakesWhat();
        measureTakesValues();
        measureReturnsTheNumber();
        measureRefuses();
        oneRecoveryIsUnknown();
        possibleValues();
        possibleNeedsSteadyState();
        possibleCounts();
        possibleReturns();
        possibleRefuses();
    }

    private static void measurementSays() {
        description("A measurement (what, p) says that the total recovery (what 0) or the grade (what 1) is p.", 31, 32);
        FlotationCircuit recovery = circuit(80, 20, 8, 9);
        recovery.measure(0, 800);
        CHECK.due("the total recovery of 80 alone", recovery.possibleRecoveries(0, 0), 1);
        CHECK.due("the gangue is free", recovery.possibleRecoveries(0, 1), 101);
        FlotationCircuit grade = circuit(80, 20, 8, 9);
        grade.measure(1, 307);
        CHECK.due("the grade of 20 alone", grade.possibleRecoveries(0, 1), 1);
        CHECK.due("the grade of 80 alone", grade.possibleRecoveries(0, 0), 1);
        for (int[] near : new int[][] {{0, 799}, {0, 801}, {1, 306}, {1, 308}}) {
            FlotationCircuit x = circuit(80, 20, 8, 9);
            x.measure(near[0], near[1]);
            CHECK.due("just that value, not " + near[1], x.possibleRecoveries(0, 1), 0);
        }
    }

    private static void measureStores() {
        promise(31, "Stores a measurement.");
        FlotationCircuit x = circuit(80, 20, 8, 9);
        CHECK.due("none is stored", x.possibleRecoveries(0, 0), 101);
        x.measure(0, 500);
        CHECK.due("50 alone", x.possibleRecoveries(0, 0), 1);
        x.measure(0, 510);
        CHECK.due("50 and 51 at once", x.possibleRecoveries(0, 0), 0);
        FlotationCircuit closed = closed();
        CHECK.due("also without a steady state", closed.measure(1, 7), 2);
        CHECK.due("also without cells", circuit().measure(1, 7), 1);
        FlotationCircuit state = lively();
        state.measure(0, 1);
        same("the state stays", state, lively());
        CHECK.due("it is no action", state.undo(), 13);
    }

    private static void lastFiveAreStored() {
        description("The object stores the last 5 measurements; a sixth one replaces the oldest.", 31, 32);
        for (int before = 0; before <= 12; before++) {
            FlotationCircuit x = circuit(80, 20, 8, 9);
            for (int i = 0; i < before; i++) {
                x.measure(i % 2, i % 2 == 0 ? 800 : 307);
            }
            CHECK.due("all are true", x.possibleRecoveries(0, 0), before == 0 ? 101 : 1);
            x.measure(0, 799);
            for (int behind = 1; behind <= 4; behind++) {
                x.measure(1, 307);
                CHECK.due("the false one is stored, " + behind + " behind it", x.possibleRecoveries(0, 0), 0);
            }
            x.measure(0, 800);
            CHECK.due("the fifth behind it replaces it, " + before + " before it", x.possibleRecoveries(0, 0), 1);
        }
        FlotationCircuit x = circuit(80, 20, 8, 9);
        x.measure(0, 800);
        for (int i = 0; i < 4; i++) {
            x.measure(1, 0);
        }
        x.measure(1, 0);
        x.setRecovery(0, 1, 100);
        x.setFeed(0, 0, 900);
        CHECK.due("the first is replaced, the grade 0 is true", x.possibleRecoveries(0, 1), 101);
    }

    private static void measureTakesWhat() {
        promise(31, "`what`: 0 for the total recovery, 1 for the grade");
        FlotationCircuit x = circuit();
        CHECK.due("what 0", x.measure(0, 5), 1);
        CHECK.due("what 1", x.measure(1, 5), 2);
        CHECK.dueThrow("what -1", ARGUMENT, () -> x.measure(-1, 5));
        CHECK.dueThrow("what 2", ARGUMENT, () -> x.measure(2, 5));
        FlotationCircuit zero = circuit(100, 100, 8, 9);
        zero.measure(0, 1000);
        CHECK.due("the total recovery is 1000", zero.possibleRecoveries(0, 1), 101);
        FlotationCircuit one = circuit(100, 100, 8, 9);
        one.measure(1, 1000);
        CHECK.due("the grade is 1000 without gangue alone", one.possibleRecoveries(0, 1), 1);
    }

    private static void measureTakesValues() {
        promise(31, "`p`: 0 to 1000");
        for (int what = 0; what < 2; what++) {
            FlotationCircuit x = circuit();
            CHECK.due("p 0", x.measure(what, 0), 1);
            CHECK.due("p 1", x.measure(what, 1), 2);
            CHECK.due("p 999", x.measure(what, 999), 3);
            CHECK.due("p 1000", x.measure(what, 1000), 4);
            int asked = what;
            CHECK.dueThrow("p -1", ARGUMENT, () -> x.measure(asked, -1));
            CHECK.dueThrow("p 1001", ARGUMENT, () -> x.measure(asked, 1001));
            CHECK.due("the fifth", x.measure(what, 0), 5);
        }
        FlotationCircuit least = circuit(80, 20, 8, 9);
        least.measure(0, 0);
        CHECK.due("p 0 is true for 0", least.possibleRecoveries(0, 0), 1);
        FlotationCircuit greatest = circuit(80, 20, 8, 9);
        greatest.measure(0, 1000);
        CHECK.due("p 1000 is true for 100", greatest.possibleRecoveries(0, 0), 1);
    }

    private static void measureReturnsTheNumber() {
        promise(31, "Returns how many measurements are stored now, 1 to 5 (5 also if the oldest one was replaced).");
        FlotationCircuit x = circuit();
        for (int i = 1; i <= 20; i++) {
            CHECK.due("measurement " + i, x.measure(i % 2, i), Math.min(i, 5));
        }
    }

    private static void measureRefuses() {
        promise(31, "Throws `IllegalArgumentException` if what or p is out of range");
        for (int what : new int[] {-1, 2, 8, NONE, MIN, MAX}) {
            refusedInAllScenes("measure(" + what + ", 5)", ARGUMENT, x -> x.measure(what, 5));
            refusedInAllScenes("measure(" + what + ", 1001)", ARGUMENT, x -> x.measure(what, 1001));
        }
        for (int p : new int[] {-1, 1001, NONE, MIN, MAX}) {
            refusedInAllScenes("measure(0, " + p + ")", ARGUMENT, x -> x.measure(0, p));
            refusedInAllScenes("measure(1, " + p + ")", ARGUMENT, x -> x.measure(1, p));
        }
    }

    private static void oneRecoveryIsUnknown() {
        description("Suppose that the recovery of one cell for one component is unknown.", 32);
        for (int r : new int[] {0, 1, 50, 99, 100}) {
            FlotationCircuit x = circuit(r, 20, 8, 9);
            x.measure(0, 800);
            CHECK.due("its own value does not matter", x.possibleRecoveries(0, 0), 1);
            CHECK.due("the other recovery is known", x.possibleRecoveries(0, 1), 0);
        }
        FlotationCircuit row = circuit(50, 20, 1, 9, 50, 20, 8, 9);
        row.measure(0, 250);
        CHECK.due("of cell 0", row.possibleRecoveries(0, 0), 1);
        CHECK.due("of cell 1", row.possibleRecoveries(1, 0), 1);
        row.setRecovery(0, 0, 25);
        CHECK.due("1 must be 100 then", row.possibleRecoveries(1, 0), 1);
        row.setRecovery(0, 0, 24);
        CHECK.due("more than 100 is no value", row.possibleRecoveries(1, 0), 0);
    }

    private static void possibleValues() {
        description("A value from 0 to 100 is possible if with this value, everything else being as it is at the time of the"
                + " question, the steady state exists and all stored measurements are true.", 32);
        FlotationCircuit x = circuit(80, 20, 8, 9);
        x.measure(0, x.totalRecovery());
        x.measure(1, x.grade());
        CHECK.due("both are true for 80", x.possibleRecoveries(0, 0), 1);
        x.setRecovery(0, 1, 21);
        CHECK.due("the question is put now, not then", x.possibleRecoveries(0, 0), 0);
        x.setRecovery(0, 1, 20);
        CHECK.due("as before", x.possibleRecoveries(0, 0), 1);
        x.setFeed(0, 200, 900);
        CHECK.due("another feed, another grade", x.possibleRecoveries(0, 0), 0);
        x.undo();
        CHECK.due("undo brings it back", x.possibleRecoveries(0, 0), 1);
        x.setDestination(0, 0, 9);
        CHECK.due("another destination", x.possibleRecoveries(0, 0), 0);
        FlotationCircuit edges = circuit(50, 20, 1, 9, 1, 20, 8, 9);
        edges.measure(0, 0);
        CHECK.due("0 to 9", edges.possibleRecoveries(0, 0), 10);
        edges.measure(0, 0);
        CHECK.due("the same twice", edges.possibleRecoveries(0, 0), 10);
        FlotationCircuit top = circuit(50, 20, 1, 9, 1, 20, 8, 9);
        top.measure(0, 10);
        CHECK.due("100 alone", top.possibleRecoveries(0, 0), 1);
        FlotationCircuit below = circuit(50, 20, 1, 9, 1, 20, 8, 9);
        below.measure(0, 9);
        CHECK.due("90 to 99", below.possibleRecoveries(0, 0), 10);
    }

    private static void possibleNeedsSteadyState() {
        promise(32, "Counts the possible values of a recovery.");
        CHECK.due("all but 0", circuit(50, 50, 8, 0).possibleRecoveries(0, 0), 100);
        CHECK.due("all but 100", circuit(50, 50, 0, 8).possibleRecoveries(0, 0), 100);
        CHECK.due("all but 0 of gangue", circuit(50, 50, 8, 0).possibleRecoveries(0, 1), 100);
        CHECK.due("all but 100 of gangue", circuit(50, 50, 0, 8).possibleRecoveries(0, 1), 100);
        CHECK.due("closed now for metal", circuit(0, 50, 8, 0).possibleRecoveries(0, 0), 100);
        CHECK.due("closed now for metal, gangue asked", circuit(0, 50, 8, 0).possibleRecoveries(0, 1), 0);
        CHECK.due("closed whatever the value", circuit(50, 50, 0, 0).possibleRecoveries(0, 0), 0);
        CHECK.due("another cell is closed", circuit(50, 50, 8, 9, 50, 50, 1, 1).possibleRecoveries(0, 0), 0);
        changesNothing("possibleRecoveries(1, 1)", Boundary::lively, x -> x.possibleRecoveries(1, 1));
        changesNothing("possibleRecoveries(5, 0)", Boundary::full, x -> x.possibleRecoveries(5, 0));
        changesNothing("possibleRecoveries(1, 0)", Boundary::closed, x -> x.possibleRecoveries(1, 0));
    }

    private static void possibleCounts() {
        promise(32, "`cell`: cell", "`component`: 0 or 1");
        for (int cell = 0; cell < 6; cell++) {
            FlotationCircuit x = row(6);
            x.setFeed(cell, 100, 900);
            x.setDestination(cell, 0, 8);
            x.measure(0, 370);
            for (int other = 0; other < 6; other++) {
                CHECK.due("metal of " + other + ", fed is " + cell, x.possibleRecoveries(other, 0), other == cell ? 1 : 0);
                CHECK.due("gangue of " + other + ", fed is " + cell, x.possibleRecoveries(other, 1), 0);
            }
            x.setRecovery(cell, 0, 37);
            for (int other = 0; other < 6; other++) {
                CHECK.due("metal of " + other + " when it is true", x.possibleRecoveries(other, 0), other == cell ? 1 : 101);
                CHECK.due("gangue of " + other + " when it is true", x.possibleRecoveries(other, 1), 101);
            }
        }
    }

    private static void possibleReturns() {
        promise(32, "Returns how many values are possible, 0 to 101.");
        CHECK.due("all, without measurements", circuit(80, 20, 8, 9).possibleRecoveries(0, 0), 101);
        CHECK.due("all of gangue", circuit(80, 20, 8, 9).possibleRecoveries(0, 1), 101);
        FlotationCircuit none = circuit(80, 20, 8, 9);
        none.measure(0, 805);
        CHECK.due("none", none.possibleRecoveries(0, 0), 0);
        FlotationCircuit all = circuit(80, 20, 9, 9);
        all.measure(0, 0);
        all.measure(1, 0);
        CHECK.due("all that say nothing", all.possibleRecoveries(0, 0), 101);
        FlotationCircuit feedless = circuit(80, 20, 8, 9);
        feedless.setFeed(0, 0, 0);
        feedless.measure(0, 0);
        CHECK.due("all without feed", feedless.possibleRecoveries(0, 0), 101);
        feedless.measure(1, 1);
        CHECK.due("none without feed", feedless.possibleRecoveries(0, 0), 0);
    }

    private static void possibleRefuses() {
        promise(32, "Throws `IndexOutOfBoundsException` if the cell or the component does not exist");
        cellAndOneOfTwo("possibleRecoveries", (x, cell, component) -> x.possibleRecoveries(cell, component));
        refused("possibleRecoveries(2, 0) without a steady state", INDEX, Boundary::closed, x -> x.possibleRecoveries(2, 0));
        refused("possibleRecoveries(0, 2) without a steady state", INDEX, Boundary::closed, x -> x.possibleRecoveries(0, 2));
    }
}
