/** Promises 1 and 6 to 10, and what 'Description' says of cells, streams and the feed. */
final class CircuitBoundaries extends Boundary {
    private CircuitBoundaries() {
    }

    static void run() {
        newObjectHasNoCells();
        newObjectHasItsFeed();
        cellCountIsZeroToSix();
        cellsAreNumberedInOrder();
        componentsAreTwo();
        recoveryIsZeroToHundred();
        recoveryIsThePercentage();
        recoveryRefuses();
        destinationStaysAsSet();
        destinationRefuses();
        destinationMayBeAnyPlace();
        streamToMissingCell();
        feedCellIsAsSet();
        feedToMissingCell();
        feedAmountIsAsSet();
        feedAmountIsUpTo999();
        feedAmountRefuses();
    }

    private static void newObjectHasNoCells() {
        promise(1, "Creates a circuit without cells.");
        CHECK.due("cellCount()", new FlotationCircuit().cellCount(), 0);
        for (int cell = 0; cell < 6; cell++) {
            int missing = cell;
            refused("recovery(" + cell + ", 0)", INDEX, FlotationCircuit::new, x -> x.recovery(missing, 0));
        }
        refused("removeLastCell()", STATE, FlotationCircuit::new, x -> x.removeLastCell());
        refused("undo()", STATE, FlotationCircuit::new, x -> x.undo());
        refused("restore(0)", STATE, FlotationCircuit::new, x -> x.restore(0));
        refused("restore(1)", STATE, FlotationCircuit::new, x -> x.restore(1));
        CHECK.due("clearText()", new FlotationCircuit().clearText(), 0);
        CHECK.due("measure(0, 0)", new FlotationCircuit().measure(0, 0), 1);
    }

    private static void newObjectHasItsFeed() {
        description("A new object has no cells, the feed cell 0 and the feed amounts 100 (metal) and 900 (gangue).", 1);
        FlotationCircuit x = new FlotationCircuit();
        CHECK.due("cellCount()", x.cellCount(), 0);
        CHECK.due("feedCell()", x.feedCell(), 0);
        CHECK.due("feedAmount(0)", x.feedAmount(0), 100);
        CHECK.due("feedAmount(1)", x.feedAmount(1), 900);
        x.setFeed(3, 1, 2);
        FlotationCircuit second = new FlotationCircuit();
        CHECK.due("feedCell() of a second object", second.feedCell(), 0);
        CHECK.due("feedAmount(1) of a second object", second.feedAmount(1), 900);
    }

    private static void cellCountIsZeroToSix() {
        promise(6, "Returns the number of cells.");
        FlotationCircuit x = new FlotationCircuit();
        for (int cells = 0; cells < 6; cells++) {
            CHECK.due("cellCount() on the way up", x.cellCount(), cells);
            x.addCell(1, 1, 8, 9);
        }
        CHECK.dueThrow("a seventh cell", STATE, () -> x.addCell(1, 1, 8, 9));
        for (int cells = 6; cells > 0; cells--) {
            CHECK.due("cellCount() on the way down", x.cellCount(), cells);
            x.removeLastCell();
        }
        CHECK.dueThrow("no cell to remove", STATE, () -> x.removeLastCell());
        CHECK.due("cellCount() then", x.cellCount(), 0);
    }

    private static void cellsAreNumberedInOrder() {
        description("There are at most 6 cells, numbered from 0 in the order in which they were added.", 6, 7, 11, 12);
        FlotationCircuit x = new FlotationCircuit();
        for (int cell = 0; cell < 6; cell++) {
            CHECK.due("addCell, number", x.addCell(10 + cell, 90 - cell, 8, 9), cell);
            for (int earlier = 0; earlier <= cell; earlier++) {
                CHECK.due("recovery(" + earlier + ", 0)", x.recovery(earlier, 0), 10 + earlier);
                CHECK.due("recovery(" + earlier + ", 1)", x.recovery(earlier, 1), 90 - earlier);
            }
        }
        CHECK.dueThrow("a seventh cell", STATE, () -> x.addCell(10, 10, 8, 9));
        x.removeLastCell();
        CHECK.due("the sixth cell again", x.addCell(77, 78, 8, 9), 5);
        CHECK.due("recovery(5, 1)", x.recovery(5, 1), 78);
        CHECK.dueThrow("a seventh cell again", STATE, () -> x.addCell(10, 10, 8, 9));
    }

    private static void componentsAreTwo() {
        description("The ore has two components: metal (0) and gangue (1).", 7, 10, 19, 20, 22);
        FlotationCircuit x = circuit(100, 0, 8, 9);
        x.setFeed(0, 3, 5);
        x.step(2);
        CHECK.due("recovery(0, 0)", x.recovery(0, 0), 100);
        CHECK.due("recovery(0, 1)", x.recovery(0, 1), 0);
        CHECK.due("feedAmount(0)", x.feedAmount(0), 3);
        CHECK.due("feedAmount(1)", x.feedAmount(1), 5);
        CHECK.due("content(0, 0)", x.content(0, 0), 3);
        CHECK.due("content(0, 1)", x.content(0, 1), 5);
        CHECK.due("amount(8, 0)", x.amount(8, 0), 3);
        CHECK.due("amount(8, 1)", x.amount(8, 1), 0);
        CHECK.due("flowNumerator(8, 0)", x.flowNumerator(8, 0), 3);
        CHECK.due("flowNumerator(8, 1)", x.flowNumerator(8, 1), 0);
        CHECK.due("flowNumerator(9, 1)", x.flowNumerator(9, 1), 5);
        refusedInAllScenes("feedAmount(2)", INDEX, y -> y.feedAmount(2));
        refusedInAllScenes("amount(8, 2)", INDEX, y -> y.amount(8, 2));
        refusedInAllScenes("amount(8, -1)", INDEX, y -> y.amount(8, -1));
    }

    private static void recoveryIsZeroToHundred() {
        promise(7, "Returns a recovery of a cell.", "`cell`: cell", "Returns the recovery, 0 to 100.");
        for (int r = 0; r <= 100; r++) {
            FlotationCircuit x = circuit(r, 100 - r, 8, 9, 100 - r, r, 8, 9);
            CHECK.due("recovery(0, 0)", x.recovery(0, 0), r);
            CHECK.due("recovery(0, 1)", x.recovery(0, 1), 100 - r);
            CHECK.due("recovery(1, 0)", x.recovery(1, 0), 100 - r);
            CHECK.due("recovery(1, 1)", x.recovery(1, 1), r);
        }
        changesNothing("recovery(0, 0)", Boundary::lively, x -> x.recovery(0, 0));
    }

    private static void recoveryIsThePercentage() {
        description("A cell has a recovery for each component, an integer from 0 to 100: the percentage of the component that"
                + " leaves the cell with its concentrate stream (0); the rest leaves with its tailings stream (1).", 7, 11, 13, 16, 22);
        for (int r = 0; r <= 100; r++) {
            FlotationCircuit x = circuit(r, 100 - r, 8, 9);
            x.setFeed(0, 100, 100);
            CHECK.due("metal into the concentrate at " + r, x.flowNumerator(8, 0), r);
            CHECK.due("metal into the tailings at " + r, x.flowNumerator(9, 0), 100 - r);
            CHECK.due("gangue into the concentrate at " + r, x.flowNumerator(8, 1), 100 - r);
            CHECK.due("gangue into the tailings at " + r, x.flowNumerator(9, 1), r);
            x.step(2);
            CHECK.due("metal in the concentrate after a step at " + r, x.amount(8, 0), r);
            CHECK.due("metal in the tailings after a step at " + r, x.amount(9, 0), 100 - r);
            CHECK.due("gangue in the tailings after a step at " + r, x.amount(9, 1), r);
        }
        for (int r : new int[] {-1, 101}) {
            refused("setRecovery(0, 0, " + r + ")", ARGUMENT, Boundary::lively, x -> x.setRecovery(0, 0, r));
            refused("addCell(" + r + ", 0, 8, 9)", ARGUMENT, Boundary::lively, x -> x.addCell(r, 0, 8, 9));
            refused("addCell(0, " + r + ", 8, 9)", ARGUMENT, Boundary::lively, x -> x.addCell(0, r, 8, 9));
        }
    }

    private static void recoveryRefuses() {
        promise(7, "`component`: 0 or 1",
                "Throws `IndexOutOfBoundsException` if the cell or the component does not exist");
        cellAndOneOfTwo("recovery", (x, cell, component) -> x.recovery(cell, component));
        FlotationCircuit x = row(3);
        x.removeLastCell();
        CHECK.dueThrow("recovery of a cell that was removed", INDEX, () -> x.recovery(2, 0));
    }

    private static void destinationStaysAsSet() {
        promise(8, "Returns the destination of a stream of a cell, as it was set.", "`cell`: cell", "Returns the destination.");
        for (int to : new int[] {0, 1, 2, 3, 4, 5, 8, 9}) {
            FlotationCircuit x = circuit(50, 50, to, 9 - to % 2);
            CHECK.due("destination(0, 0)", x.destination(0, 0), to);
            CHECK.due("destination(0, 1)", x.destination(0, 1), 9 - to % 2);
            x.setDestination(0, 1, to);
            CHECK.due("destination(0, 1) then", x.destination(0, 1), to);
        }
        FlotationCircuit x = circuit(50, 50, 2, 1, 50, 50, 1, 0, 50, 50, 8, 9);
        x.removeLastCell();
        CHECK.due("a cell that was removed stays the destination", x.destination(0, 0), 2);
        x.removeLastCell();
        CHECK.due("and so does the next one", x.destination(0, 1), 1);
        x.step(2);
        CHECK.due("also after steps", x.destination(0, 0), 2);
        changesNothing("destination(0, 0)", Boundary::lively, y -> y.destination(0, 0));
    }

    private static void destinationRefuses() {
        promise(8, "`stream`: 0 for the concentrate, 1 for the tailings",
                "Throws `IndexOutOfBoundsException` if the cell or the stream does not exist");
        CHECK.due("the concentrate's", circuit(1, 2, 3, 4).destination(0, 0), 3);
        CHECK.due("the tailings'", circuit(1, 2, 3, 4).destination(0, 1), 4);
        cellAndOneOfTwo("destination", (x, cell, stream) -> x.destination(cell, stream));
    }

    private static void destinationMayBeAnyPlace() {
        description("Each of the two streams of a cell has a destination: a cell (0 to 5; it may be the cell itself, and it may"
                + " not exist now; then it counts again as soon as it exists), or one of the two products: the final concentrate"
                + " (8) or the final tailings (9).", 8, 11, 14, 16, 22, 26);
        for (int to : new int[] {-1, 6, 7, 10}) {
            for (int stream = 0; stream < 2; stream++) {
                int asked = stream;
                refused("setDestination to " + to, ARGUMENT, Boundary::lively, x -> x.setDestination(0, asked, to));
            }
            refused("addCell(.., " + to + ", 9)", ARGUMENT, Boundary::lively, x -> x.addCell(1, 1, to, 9));
            refused("addCell(.., 8, " + to + ")", ARGUMENT, Boundary::lively, x -> x.addCell(1, 1, 8, to));
        }
        for (int missing = 1; missing <= 5; missing++) {
            countsAgain(missing);
        }
        FlotationCircuit own = circuit(50, 50, 0, 9);
        CHECK.due("the cell itself", own.flowNumerator(0, 0), 200);
        CHECK.due("the final concentrate", circuit(100, 0, 8, 9).flowNumerator(8, 0), 100);
        CHECK.due("the final tailings", circuit(100, 0, 9, 8).flowNumerator(9, 0), 100);
    }

    /** A stream to a cell that does not exist, exists, does not exist and exists again. */
    private static void countsAgain(int missing) {
        FlotationCircuit x = circuit(100, 100, missing, missing);
        for (int round = 0; round < 2; round++) {
            while (x.cellCount() < missing) {
                x.addCell(100, 100, 8, 9);
                CHECK.due("it does not count with " + x.cellCount() + " cells", x.totalRecovery(), 0);
            }
            CHECK.due("not in a loop", x.isInLoop(0), false);
            CHECK.due("the cell itself is added", x.addCell(100, 100, 8, 0), missing);
            CHECK.due("it counts", x.totalRecovery(), 1000);
            CHECK.due("it is a link", x.isInLoop(0), true);
            x.drain();
            x.step(2);
            CHECK.due("it gets the stream in the simulation", x.content(missing, 1), 900);
            CHECK.due("the tailings do not", x.amount(9, 1), 0);
            CHECK.due("it is removed", x.removeLastCell(), missing);
            CHECK.due("it does not count now", x.totalRecovery(), 0);
            CHECK.due("it is no link now", x.isInLoop(0), false);
            x.step(1);
            CHECK.due("the tailings get the stream", x.amount(9, 1), 900);
            CHECK.due("the destination is as set", x.destination(0, 0), missing);
        }
    }

    private static void streamToMissingCell() {
        description("A stream whose destination is a cell that does not exist goes to the final tailings.", 16, 21, 22, 24, 27);
        for (int cells = 1; cells <= 5; cells++) {
            for (int to = cells; to <= 5; to++) {
                FlotationCircuit x = row(cells);
                x.setDestination(0, 0, to);
                x.setDestination(0, 1, 8);
                x.setRecovery(0, 0, 30);
                x.setRecovery(0, 1, 0);
                CHECK.due("the concentrate goes there", x.flowNumerator(9, 0), 30);
                CHECK.due("the tailings are the product", x.flowNumerator(8, 0), 70);
                x.step(2);
                CHECK.due("also in the simulation", x.amount(9, 0), 30);
                x.setDestination(0, 0, 8);
                x.setDestination(0, 1, to);
                CHECK.due("the tailings stream goes there", x.flowNumerator(9, 0), 70);
                CHECK.due("the gangue too", x.flowNumerator(9, 1), 900);
                x.drain();
                x.step(2);
                CHECK.due("also in the simulation", x.amount(9, 1), 900);
            }
        }
        CHECK.due("it is a product, so all can leave", circuit(50, 50, 1, 5).hasSteadyState(), true);
        CHECK.due("it is no loop", circuit(50, 50, 1, 5).loopCount(), 0);
    }

    private static void feedCellIsAsSet() {
        promise(9, "Returns the feed cell.");
        for (int cells = 0; cells <= 6; cells++) {
            FlotationCircuit x = row(cells);
            for (int cell = 0; cell <= 5; cell++) {
                x.setFeed(cell, 1, 1);
                CHECK.due("feedCell() of " + cells + " cells", x.feedCell(), cell);
            }
            if (cells > 0) {
                x.removeLastCell();
            }
            CHECK.due("feedCell() then", x.feedCell(), 5);
        }
        changesNothingInAllScenes("feedCell()", x -> x.feedCell());
    }

    private static void feedToMissingCell() {
        description("The feed goes to the feed cell (0 to 5; if this cell does not exist, the feed goes to the final tailings).",
                15, 16, 22);
        for (int cells = 0; cells <= 6; cells++) {
            for (int fed = 0; fed <= 5; fed++) {
                FlotationCircuit x = row(cells);
                x.setFeed(fed, 7, 11);
                x.step(1);
                boolean exists = fed < cells;
                for (int cell = 0; cell < cells; cell++) {
                    CHECK.due("metal in " + cell, x.content(cell, 0), cell == fed ? 7 : 0);
                    CHECK.due("gangue in " + cell, x.content(cell, 1), cell == fed ? 11 : 0);
                }
                CHECK.due("metal in the tailings", x.amount(9, 0), exists ? 0 : 7);
                CHECK.due("gangue in the tailings", x.amount(9, 1), exists ? 0 : 11);
                CHECK.due("metal in the concentrate", x.amount(8, 0), 0);
                CHECK.due("flow of metal", x.flowNumerator(exists ? fed : 9, 0), 7);
                CHECK.due("flow of gangue", x.flowNumerator(exists ? fed : 9, 1), 11);
            }
        }
        FlotationCircuit x = new FlotationCircuit();
        CHECK.due("no cell 0 yet", x.flowNumerator(9, 0), 100);
        x.addCell(100, 100, 8, 8);
        CHECK.due("cell 0 is fed as soon as it exists", x.flowNumerator(9, 0), 0);
        refused("setFeed(6, 1, 1)", ARGUMENT, Boundary::full, y -> y.setFeed(6, 1, 1));
        refused("setFeed(-1, 1, 1)", ARGUMENT, Boundary::full, y -> y.setFeed(-1, 1, 1));
    }

    private static void feedAmountIsAsSet() {
        promise(10, "Returns a feed amount.", "Returns the amount per hour.");
        FlotationCircuit x = row(1);
        for (int amount : new int[] {0, 1, 500, 998, 999}) {
            x.setFeed(0, amount, 999 - amount);
            CHECK.due("feedAmount(0)", x.feedAmount(0), amount);
            CHECK.due("feedAmount(1)", x.feedAmount(1), 999 - amount);
            x.step(1);
            CHECK.due("in one step", x.content(0, 0), amount);
        }
        changesNothingInAllScenes("feedAmount(1)", y -> y.feedAmount(1));
    }

    private static void feedAmountIsUpTo999() {
        description("It has an amount of each component per hour, 0 to 999.", 10, 15, 16, 22);
        FlotationCircuit x = row(1);
        x.setFeed(0, 999, 0);
        CHECK.due("999 of metal", x.flowNumerator(0, 0), 999);
        CHECK.due("0 of gangue", x.flowNumerator(0, 1), 0);
        x.step(1);
        CHECK.due("999 of metal in a step", x.content(0, 0), 999);
        CHECK.due("0 of gangue in a step", x.content(0, 1), 0);
        for (int amount : new int[] {-1, 1000}) {
            refused("setFeed(0, " + amount + ", 5)", ARGUMENT, Boundary::lively, y -> y.setFeed(0, amount, 5));
            refused("setFeed(0, 5, " + amount + ")", ARGUMENT, Boundary::lively, y -> y.setFeed(0, 5, amount));
        }
    }

    private static void feedAmountRefuses() {
        promise(10, "`component`: 0 or 1", "Throws `IndexOutOfBoundsException` if the component does not exist");
        FlotationCircuit x = new FlotationCircuit();
        CHECK.due("feedAmount(0)", x.feedAmount(0), 100);
        CHECK.due("feedAmount(1)", x.feedAmount(1), 900);
        for (int component : new int[] {-1, 2, 3, 8, 9, NONE, MIN, MAX}) {
            refusedInAllScenes("feedAmount(" + component + ")", INDEX, y -> y.feedAmount(component));
        }
    }
}
