/** Promises 11 to 15: the actions that change cells and feed. */
final class ActionBoundaries extends Boundary {
    private static final int[] PLACES = {0, 1, 2, 3, 4, 5, 8, 9};
    private static final int[] NO_PLACES = {-1, 6, 7, 10, NONE, MIN, MAX};
    private static final int[] NO_PERCENTAGES = {-1, 101, 255, NONE, MIN, MAX};
    private static final int[] NO_AMOUNTS = {-1, 1000, NONE, MIN, MAX};

    private ActionBoundaries() {
    }

    static void run() {
        addCellIsEmpty();
        addCellMetal();
        addCellGangue();
        addCellConcentrate();
        addCellTailings();
        addCellReturnsTheNumber();
        addCellRefusesArguments();
        addCellRefusesTheSeventh();
        removeLastCellRemoves();
        removeLastCellReturns();
        removeLastCellRefuses();
        setRecoveryChanges();
        setRecoveryTakes();
        setRecoveryReturns();
        setRecoveryRefusesIndexes();
        setRecoveryRefusesValues();
        setDestinationChanges();
        setDestinationTakes();
        setDestinationReturns();
        setDestinationRefusesIndexes();
        setDestinationRefusesPlaces();
        setFeedChanges();
        setFeedCell();
        setFeedMetal();
        setFeedGangue();
        setFeedReturns();
        setFeedRefuses();
    }

    private static void addCellIsEmpty() {
        promise(11, "Adds a cell without contents.");
        for (int cells = 1; cells <= 6; cells++) {
            FlotationCircuit x = row(cells);
            x.setFeed(cells - 1, 999, 998);
            x.step(3);
            CHECK.due("content before", x.content(cells - 1, 0), 999);
            x.removeLastCell();
            x.addCell(1, 2, 8, 9);
            CHECK.due("metal in the cell added", x.content(cells - 1, 0), 0);
            CHECK.due("gangue in the cell added", x.content(cells - 1, 1), 0);
            CHECK.due("the cell's recovery", x.recovery(cells - 1, 1), 2);
        }
        FlotationCircuit y = circuit(0, 0, 0, 0);
        y.step(5);
        y.addCell(7, 8, 9, 8);
        CHECK.due("the other contents stay", y.content(0, 1), 4500);
        CHECK.due("the other recovery stays", y.recovery(0, 0), 0);
    }

    private static void addCellMetal() {
        promise(11, "`metal`: recovery for metal, 0 to 100");
        for (int r : new int[] {0, 1, 99, 100}) {
            CHECK.due("recovery(0, 0)", circuit(r, 50, 8, 9).recovery(0, 0), r);
        }
        for (int r : NO_PERCENTAGES) {
            refused("addCell(" + r + ", 50, 8, 9)", ARGUMENT, Boundary::lively, x -> x.addCell(r, 50, 8, 9));
        }
    }

    private static void addCellGangue() {
        promise(11, "`gangue`: recovery for gangue, 0 to 100");
        for (int r : new int[] {0, 1, 99, 100}) {
            CHECK.due("recovery(0, 1)", circuit(50, r, 8, 9).recovery(0, 1), r);
        }
        for (int r : NO_PERCENTAGES) {
            refused("addCell(50, " + r + ", 8, 9)", ARGUMENT, Boundary::lively, x -> x.addCell(50, r, 8, 9));
        }
    }

    private static void addCellConcentrate() {
        promise(11, "`concentrateTo`: destination of the concentrate stream: 0 to 5, 8 or 9");
        for (int to : PLACES) {
            CHECK.due("destination(0, 0)", circuit(50, 50, to, 8).destination(0, 0), to);
        }
        for (int to : NO_PLACES) {
            refused("addCell(50, 50, " + to + ", 9)", ARGUMENT, Boundary::lively, x -> x.addCell(50, 50, to, 9));
        }
    }

    private static void addCellTailings() {
        promise(11, "`tailingsTo`: destination of the tailings stream: 0 to 5, 8 or 9");
        for (int to : PLACES) {
            CHECK.due("destination(0, 1)", circuit(50, 50, 8, to).destination(0, 1), to);
        }
        for (int to : NO_PLACES) {
            refused("addCell(50, 50, 8, " + to + ")", ARGUMENT, Boundary::lively, x -> x.addCell(50, 50, 8, to));
        }
    }

    private static void addCellReturnsTheNumber() {
        promise(11, "Returns the number of the cell.");
        for (int cells = 0; cells < 6; cells++) {
            CHECK.due("addCell behind " + cells + " cells", row(cells).addCell(1, 1, 8, 9), cells);
        }
    }

    private static void addCellRefusesArguments() {
        promise(11, "Throws `IllegalArgumentException` if an argument is out of range");
        int[][] wrong = {
            {-1, 0, 8, 9}, {101, 0, 8, 9}, {0, -1, 8, 9}, {0, 101, 8, 9}, {0, 0, -1, 9}, {0, 0, 6, 9}, {0, 0, 7, 9},
            {0, 0, 10, 9}, {0, 0, 8, -1}, {0, 0, 8, 6}, {0, 0, 8, 7}, {0, 0, 8, 10}, {MIN, MAX, MIN, MAX},
        };
        for (int[] w : wrong) {
            refusedInAllScenes("addCell(" + w[0] + ", " + w[1] + ", " + w[2] + ", " + w[3] + ")", ARGUMENT,
                    x -> x.addCell(w[0], w[1], w[2], w[3]));
        }
    }

    private static void addCellRefusesTheSeventh() {
        promise(11, "Throws `IllegalStateException` if there are 6 cells");
        CHECK.due("addCell to 5 cells", row(5).addCell(1, 1, 8, 9), 5);
        refused("addCell to 6 cells", STATE, () -> row(6), x -> x.addCell(1, 1, 8, 9));
        refused("addCell to 6 cells with all else full", STATE, Boundary::full, x -> x.addCell(100, 0, 5, 0));
        FlotationCircuit loaded = new FlotationCircuit();
        write(loaded, SIX_CELLS);
        loaded.load();
        CHECK.dueThrow("addCell to 6 loaded cells", STATE, () -> loaded.addCell(1, 1, 8, 9));
        loaded.removeLastCell();
        CHECK.due("addCell when one is gone", loaded.addCell(1, 1, 8, 9), 5);
    }

    private static void removeLastCellRemoves() {
        promise(12, "Removes the last cell; its contents are lost.");
        for (int cells = 1; cells <= 6; cells++) {
            FlotationCircuit x = row(cells);
            x.setFeed(cells - 1, 10, 20);
            x.step(1);
            x.removeLastCell();
            int last = cells - 1;
            CHECK.dueThrow("content of the cell removed", INDEX, () -> x.content(last, 0));
            CHECK.due("its contents are in no product", x.amount(8, 0) + x.amount(9, 0) + x.amount(8, 1) + x.amount(9, 1), 0);
            CHECK.due("its contents are in no cell", x.drain(), 0);
            for (int cell = 0; cell < last; cell++) {
                CHECK.due("the others stay", x.recovery(cell, 0), 50 + cell);
            }
        }
    }

    private static void removeLastCellReturns() {
        promise(12, "Returns the number of cells then.");
        FlotationCircuit x = row(6);
        for (int left = 5; left >= 0; left--) {
            CHECK.due("removeLastCell()", x.removeLastCell(), left);
        }
    }

    private static void removeLastCellRefuses() {
        promise(12, "Throws `IllegalStateException` if there are no cells");
        CHECK.due("removeLastCell() of one cell", row(1).removeLastCell(), 0);
        refused("removeLastCell() of a new object", STATE, FlotationCircuit::new, x -> x.removeLastCell());
        refused("removeLastCell() when all are gone", STATE, ActionBoundaries::emptied, x -> x.removeLastCell());
        FlotationCircuit x = emptied();
        x.addCell(1, 1, 8, 9);
        CHECK.due("removeLastCell() of a cell added then", x.removeLastCell(), 0);
    }

    private static FlotationCircuit emptied() {
        FlotationCircuit x = lively();
        x.removeLastCell();
        x.removeLastCell();
        x.removeLastCell();
        return x;
    }

    private static void setRecoveryChanges() {
        promise(13, "Changes a recovery.", "`cell`: cell");
        for (int cell = 0; cell < 6; cell++) {
            for (int component = 0; component < 2; component++) {
                FlotationCircuit x = row(6);
                x.setRecovery(cell, component, 99);
                for (int other = 0; other < 6; other++) {
                    boolean changed = other == cell;
                    CHECK.due("metal of " + other, x.recovery(other, 0), changed && component == 0 ? 99 : 50 + other);
                    CHECK.due("gangue of " + other, x.recovery(other, 1), changed && component == 1 ? 99 : 10 + other);
                    CHECK.due("destination of " + other, x.destination(other, 1), 9);
                }
            }
        }
    }

    private static void setRecoveryTakes() {
        promise(13, "`r`: new recovery, 0 to 100");
        for (int component = 0; component < 2; component++) {
            FlotationCircuit x = row(2);
            for (int r = 0; r <= 100; r++) {
                x.setRecovery(1, component, r);
                CHECK.due("recovery(1, " + component + ")", x.recovery(1, component), r);
            }
            int asked = component;
            CHECK.dueThrow("r 101", ARGUMENT, () -> x.setRecovery(1, asked, 101));
            CHECK.dueThrow("r -1", ARGUMENT, () -> x.setRecovery(1, asked, -1));
            CHECK.due("recovery(1, " + component + ") then", x.recovery(1, component), 100);
        }
    }

    private static void setRecoveryReturns() {
        promise(13, "Returns the previous recovery.");
        FlotationCircuit x = circuit(0, 100, 8, 9);
        CHECK.due("0 before", x.setRecovery(0, 0, 100), 0);
        CHECK.due("100 before", x.setRecovery(0, 0, 100), 100);
        CHECK.due("100 before", x.setRecovery(0, 0, 0), 100);
        CHECK.due("the gangue's 100 before", x.setRecovery(0, 1, 7), 100);
        CHECK.due("7 before", x.setRecovery(0, 1, 7), 7);
    }

    private static void setRecoveryRefusesIndexes() {
        promise(13, "`component`: 0 or 1",
                "Throws `IndexOutOfBoundsException` if the cell or the component does not exist");
        cellAndOneOfTwo("setRecovery", (x, cell, component) -> x.setRecovery(cell, component, 50));
        for (int r : NO_PERCENTAGES) {
            refusedInAllScenes("setRecovery(6, 0, " + r + ")", INDEX, x -> x.setRecovery(6, 0, r));
            refusedInAllScenes("setRecovery(-1, 0, " + r + ")", INDEX, x -> x.setRecovery(-1, 0, r));
            refusedInAllScenes("setRecovery(0, 2, " + r + ")", INDEX, x -> x.setRecovery(0, 2, r));
            refusedInAllScenes("setRecovery(0, -1, " + r + ")", INDEX, x -> x.setRecovery(0, -1, r));
        }
    }

    private static void setRecoveryRefusesValues() {
        promise(13, "Throws `IllegalArgumentException` if r is out of range");
        for (int r : NO_PERCENTAGES) {
            refused("setRecovery(2, 0, " + r + ")", ARGUMENT, Boundary::lively, x -> x.setRecovery(2, 0, r));
            refused("setRecovery(5, 1, " + r + ")", ARGUMENT, Boundary::full, x -> x.setRecovery(5, 1, r));
        }
    }

    private static void setDestinationChanges() {
        promise(14, "Changes the destination of a stream.", "`cell`: cell");
        for (int cell = 0; cell < 6; cell++) {
            for (int stream = 0; stream < 2; stream++) {
                FlotationCircuit x = circuit(1, 1, 8, 9, 1, 1, 8, 9, 1, 1, 8, 9, 1, 1, 8, 9, 1, 1, 8, 9, 1, 1, 8, 9);
                x.setDestination(cell, stream, 3);
                for (int other = 0; other < 6; other++) {
                    boolean changed = other == cell;
                    CHECK.due("concentrate of " + other, x.destination(other, 0), changed && stream == 0 ? 3 : 8);
                    CHECK.due("tailings of " + other, x.destination(other, 1), changed && stream == 1 ? 3 : 9);
                    CHECK.due("recovery of " + other, x.recovery(other, stream), 1);
                }
            }
        }
    }

    private static void setDestinationTakes() {
        promise(14, "`to`: new destination: 0 to 5, 8 or 9");
        for (int stream = 0; stream < 2; stream++) {
            FlotationCircuit x = row(2);
            for (int to : PLACES) {
                x.setDestination(1, stream, to);
                CHECK.due("destination(1, " + stream + ")", x.destination(1, stream), to);
            }
        }
    }

    private static void setDestinationReturns() {
        promise(14, "Returns the previous destination.");
        FlotationCircuit x = circuit(50, 50, 5, 0);
        CHECK.due("5, which does not exist", x.setDestination(0, 0, 8), 5);
        CHECK.due("8", x.setDestination(0, 0, 9), 8);
        CHECK.due("9", x.setDestination(0, 0, 9), 9);
        CHECK.due("0, the cell itself", x.setDestination(0, 1, 5), 0);
        CHECK.due("5", x.setDestination(0, 1, 0), 5);
    }

    private static void setDestinationRefusesIndexes() {
        promise(14, "`stream`: 0 for the concentrate, 1 for the tailings",
                "Throws `IndexOutOfBoundsException` if the cell or the stream does not exist");
        cellAndOneOfTwo("setDestination", (x, cell, stream) -> x.setDestination(cell, stream, 8));
        for (int to : NO_PLACES) {
            refusedInAllScenes("setDestination(6, 0, " + to + ")", INDEX, x -> x.setDestination(6, 0, to));
            refusedInAllScenes("setDestination(-1, 0, " + to + ")", INDEX, x -> x.setDestination(-1, 0, to));
            refusedInAllScenes("setDestination(0, 2, " + to + ")", INDEX, x -> x.setDestination(0, 2, to));
            refusedInAllScenes("setDestination(0, -1, " + to + ")", INDEX, x -> x.setDestination(0, -1, to));
        }
    }

    private static void setDestinationRefusesPlaces() {
        promise(14, "Throws `IllegalArgumentException` if to is not such a destination");
        for (int to : NO_PLACES) {
            refused("setDestination(2, 0, " + to + ")", ARGUMENT, Boundary::lively, x -> x.setDestination(2, 0, to));
            refused("setDestination(2, 1, " + to + ")", ARGUMENT, Boundary::lively, x -> x.setDestination(2, 1, to));
            refused("setDestination(5, 1, " + to + ")", ARGUMENT, Boundary::full, x -> x.setDestination(5, 1, to));
        }
    }

    private static void setFeedChanges() {
        promise(15, "Changes the feed.");
        FlotationCircuit x = row(2);
        x.setFeed(1, 17, 18);
        CHECK.due("feedCell()", x.feedCell(), 1);
        CHECK.due("feedAmount(0)", x.feedAmount(0), 17);
        CHECK.due("feedAmount(1)", x.feedAmount(1), 18);
        x.step(1);
        CHECK.due("the content of the new feed cell", x.content(1, 1), 18);
        CHECK.due("the content of the old feed cell", x.content(0, 1), 0);
    }

    private static void setFeedCell() {
        promise(15, "`cell`: new feed cell, 0 to 5 (it need not exist)");
        for (int cells = 0; cells <= 6; cells++) {
            for (int cell = 0; cell <= 5; cell++) {
                FlotationCircuit x = row(cells);
                x.setFeed(cell, 1, 2);
                CHECK.due("feedCell() with " + cells + " cells", x.feedCell(), cell);
            }
            int count = cells;
            for (int cell : new int[] {-1, 6, 7, 8, 9, NONE, MIN, MAX}) {
                refused("setFeed(" + cell + ", 1, 2)", ARGUMENT, () -> row(count), x -> x.setFeed(cell, 1, 2));
            }
        }
    }

    private static void setFeedMetal() {
        promise(15, "`metal`: new amount of metal, 0 to 999");
        for (int amount : new int[] {0, 1, 998, 999}) {
            FlotationCircuit x = row(1);
            x.setFeed(0, amount, 5);
            CHECK.due("feedAmount(0)", x.feedAmount(0), amount);
            CHECK.due("feedAmount(1)", x.feedAmount(1), 5);
        }
        for (int amount : NO_AMOUNTS) {
            refused("setFeed(0, " + amount + ", 5)", ARGUMENT, Boundary::lively, x -> x.setFeed(0, amount, 5));
        }
    }

    private static void setFeedGangue() {
        promise(15, "`gangue`: new amount of gangue, 0 to 999");
        for (int amount : new int[] {0, 1, 998, 999}) {
            FlotationCircuit x = row(1);
            x.setFeed(0, 5, amount);
            CHECK.due("feedAmount(0)", x.feedAmount(0), 5);
            CHECK.due("feedAmount(1)", x.feedAmount(1), amount);
        }
        for (int amount : NO_AMOUNTS) {
            refused("setFeed(0, 5, " + amount + ")", ARGUMENT, Boundary::lively, x -> x.setFeed(0, 5, amount));
        }
    }

    private static void setFeedReturns() {
        promise(15, "Returns the previous feed cell.");
        FlotationCircuit x = new FlotationCircuit();
        CHECK.due("the new object's", x.setFeed(5, 1, 1), 0);
        CHECK.due("a cell that does not exist", x.setFeed(5, 1, 1), 5);
        CHECK.due("the same again", x.setFeed(0, 1, 1), 5);
        CHECK.due("0", x.setFeed(3, 1, 1), 0);
    }

    private static void setFeedRefuses() {
        promise(15, "Throws `IllegalArgumentException` if an argument is out of range");
        int[][] wrong = {
            {-1, 0, 0}, {6, 0, 0}, {8, 0, 0}, {9, 0, 0}, {0, -1, 0}, {0, 1000, 0}, {0, 0, -1}, {0, 0, 1000},
            {MIN, 0, 0}, {MAX, 0, 0}, {0, MIN, 0}, {0, MAX, 0}, {0, 0, MIN}, {0, 0, MAX}, {6, 1000, 1000},
        };
        for (int[] w : wrong) {
            refusedInAllScenes("setFeed(" + w[0] + ", " + w[1] + ", " + w[2] + ")", ARGUMENT,
                    x -> x.setFeed(w[0], w[1], w[2]));
        }
    }
}
