/** Promises 26 and 27, and what 'Description' says of loops. */
final class LoopBoundaries extends Boundary {
    private LoopBoundaries() {
    }

    static void run() {
        linkWhateverThePercentages();
        reachedFromItself();
        sameLoopIfBothWays();
        isInLoopAnswers();
        isInLoopRefuses();
        loopCountAnswers();
    }

    private static void linkWhateverThePercentages() {
        description("There is a link from cell u to cell v if a stream of u has the destination v (whatever its percentages are)"
                + " and v exists.", 26, 27);
        for (int r : new int[] {0, 50, 100}) {
            CHECK.due("by the concentrate at " + r, circuit(r, r, 0, 9).isInLoop(0), true);
            CHECK.due("by the tailings at " + r, circuit(r, r, 9, 0).isInLoop(0), true);
            CHECK.due("two cells at " + r, circuit(r, r, 1, 9, r, r, 9, 0).loopCount(), 1);
        }
        for (int cells = 1; cells <= 5; cells++) {
            FlotationCircuit x = row(cells);
            x.setDestination(0, 1, cells);
            CHECK.due("cell " + cells + " does not exist", x.loopCount(), 0);
            CHECK.due("0 is in no loop", x.isInLoop(0), false);
            x.addCell(50, 50, 8, 0);
            CHECK.due("now it exists", x.isInLoop(0), true);
            CHECK.due("a loop then", x.loopCount(), 1);
            x.removeLastCell();
            CHECK.due("it is gone", x.isInLoop(0), false);
            CHECK.due("no loop then", x.loopCount(), 0);
        }
        CHECK.due("products are no cells", circuit(50, 50, 8, 9).isInLoop(0), false);
    }

    private static void reachedFromItself() {
        description("A cell is in a loop if it can be reached from itself by one or more links (so also by one link to itself).",
                26);
        for (int length = 1; length <= 6; length++) {
            for (int start = 0; start + length <= 6; start++) {
                FlotationCircuit x = row(6);
                x.setDestination(start + length - 1, 1, start);
                for (int cell = 0; cell < 6; cell++) {
                    boolean within = cell >= start && cell < start + length;
                    CHECK.due("cell " + cell + ", " + length + " links from " + start, x.isInLoop(cell), within);
                }
                CHECK.due("one loop", x.loopCount(), 1);
            }
        }
        CHECK.due("none by no link", row(1).isInLoop(0), false);
    }

    private static void sameLoopIfBothWays() {
        description("Two cells that are in loops are in the same loop if each of them can be reached from the other one.", 27);
        CHECK.due("0 and 1 lead to each other", circuit(1, 1, 1, 9, 1, 1, 0, 9).loopCount(), 1);
        CHECK.due("0 leads to 1 alone", circuit(1, 1, 0, 1, 1, 1, 1, 9).loopCount(), 2);
        CHECK.due("1 leads to 0 alone", circuit(1, 1, 0, 9, 1, 1, 1, 0).loopCount(), 2);
        CHECK.due("neither leads to the other", circuit(1, 1, 0, 9, 1, 1, 1, 9).loopCount(), 2);
        CHECK.due("over a third", circuit(1, 1, 2, 9, 1, 1, 0, 9, 1, 1, 1, 9).loopCount(), 1);
        CHECK.due("a cell between two loops is in none", circuit(1, 1, 0, 1, 1, 1, 2, 9, 1, 1, 2, 9).loopCount(), 2);
        CHECK.due("two rings of three, one leads to the other",
                circuit(1, 1, 1, 9, 1, 1, 2, 9, 1, 1, 0, 3, 1, 1, 4, 9, 1, 1, 5, 9, 1, 1, 3, 9).loopCount(), 2);
        CHECK.due("and back",
                circuit(1, 1, 1, 9, 1, 1, 2, 9, 1, 1, 0, 3, 1, 1, 4, 9, 1, 1, 5, 9, 1, 1, 3, 0).loopCount(), 1);
        CHECK.due("three pairs across", circuit(1, 1, 5, 9, 1, 1, 4, 9, 1, 1, 3, 9, 1, 1, 2, 9, 1, 1, 1, 9, 1, 1, 0, 9)
                .loopCount(), 3);
    }

    private static void isInLoopAnswers() {
        promise(26, "Tells whether a cell is in a loop.", "Returns true if it is.");
        FlotationCircuit x = circuit(1, 1, 1, 9, 1, 1, 2, 8, 1, 1, 1, 9, 1, 1, 3, 0, 1, 1, 8, 9);
        boolean[] want = {false, true, true, true, false};
        for (int cell = 0; cell < want.length; cell++) {
            CHECK.due("isInLoop(" + cell + ")", x.isInLoop(cell), want[cell]);
        }
        changesNothing("isInLoop(2)", Boundary::lively, y -> y.isInLoop(2) ? 1 : 0);
        changesNothing("isInLoop(0)", Boundary::closed, y -> y.isInLoop(0) ? 1 : 0);
    }

    private static void isInLoopRefuses() {
        promise(26, "`cell`: cell", "Throws `IndexOutOfBoundsException` if the cell does not exist");
        for (int cells = 0; cells <= 6; cells++) {
            int count = cells;
            for (int cell : new int[] {-1, count, 6, 7, 8, 9, NONE, MIN, MAX}) {
                refused("isInLoop(" + cell + ") of " + count, INDEX, () -> row(count), x -> x.isInLoop(cell) ? 1 : 0);
            }
            for (int cell = 0; cell < count; cell++) {
                CHECK.due("isInLoop(" + cell + ") of " + count, row(count).isInLoop(cell), false);
            }
        }
    }

    private static void loopCountAnswers() {
        promise(27, "Returns the number of loops.");
        CHECK.due("without cells", circuit().loopCount(), 0);
        FlotationCircuit x = row(6);
        CHECK.due("a row", x.loopCount(), 0);
        for (int cell = 0; cell < 6; cell++) {
            x.setDestination(cell, 1, cell);
            CHECK.due("cells 0 to " + cell + " lead to themselves", x.loopCount(), cell + 1);
        }
        x.setDestination(5, 1, 0);
        CHECK.due("all in one", x.loopCount(), 1);
        changesNothingInAllScenes("loopCount()", y -> y.loopCount());
    }
}
