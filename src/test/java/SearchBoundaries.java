/** Promises 28 to 30: the best cell to improve or to shut, and the recovery that is needed. */
final class SearchBoundaries extends Boundary {
    private SearchBoundaries() {
    }

    static void run() {
        improvedByFive();
        improvementNotConsidered();
        improvementSmallestNumber();
        improvementOrNone();
        shutAlone();
        shutMeansBothRecoveries();
        shutdownNotConsidered();
        shutdownSmallestNumber();
        shutdownOrNone();
        smallestRecoveryFor();
        recoveryForNotConsidered();
        recoveryForTakes();
        recoveryForOrNone();
        recoveryForRefusesCells();
        recoveryForRefusesValues();
    }

    /** The feed is halved to two cells, whose concentrates are the product. */
    private static FlotationCircuit halves(int first, int second) {
        return circuit(50, 50, 1, 2, first, 10, 8, 9, second, 10, 8, 9);
    }

    private static void improvedByFive() {
        promise(28, "Finds the cell that is best improved: the one for which the total recovery is greatest if its recovery for"
                + " metal becomes 5 greater (but at most 100).");
        CHECK.due("99 of 100 to itself: open", circuit(94, 50, 0, 8).bestImprovement(), 0);
        CHECK.due("95 becomes 100: closed", circuit(95, 50, 0, 8).bestImprovement(), NONE);
        CHECK.due("96 becomes 100: closed", circuit(96, 50, 0, 8).bestImprovement(), NONE);
        CHECK.due("100 stays 100: closed", circuit(100, 50, 0, 8).bestImprovement(), NONE);
        CHECK.due("98 gains 2, 95 gains 5", halves(98, 95).bestImprovement(), 2);
        CHECK.due("96 gains 4, 95 gains 5", halves(96, 95).bestImprovement(), 2);
        CHECK.due("95 and 94 gain 5 each", halves(95, 94).bestImprovement(), 1);
        CHECK.due("95 gains 5, 96 gains 4", halves(95, 96).bestImprovement(), 1);
        CHECK.due("100 gains nothing", halves(100, 99).bestImprovement(), 2);
        FlotationCircuit second = circuit(50, 50, 8, 9, 0, 50, 8, 9);
        second.setFeed(1, 100, 900);
        CHECK.due("the recovery for metal, not for gangue", second.bestImprovement(), 1);
        CHECK.due("0.55 * 0.4 and 0.5 * 0.45", circuit(50, 10, 1, 9, 40, 10, 8, 9).bestImprovement(), 1);
        changesNothingInAllScenes("bestImprovement()", x -> x.bestImprovement());
    }

    private static void improvementNotConsidered() {
        promise(28, "Cells for which the steady state would not exist then are not considered.");
        FlotationCircuit x = circuit(50, 50, 1, 9, 95, 50, 1, 8);
        CHECK.due("1 would be closed, 0 is left", x.bestImprovement(), 0);
        CHECK.due("0 would be closed, 1 is left", circuit(95, 50, 0, 8, 50, 50, 8, 9).bestImprovement(), 1);
        CHECK.due("now closed for metal, open with 5", circuit(0, 50, 8, 0).bestImprovement(), 0);
        CHECK.due("1 is closed now, so 0 does not help", circuit(50, 50, 8, 9, 0, 50, 8, 1).bestImprovement(), 1);
        CHECK.due("closed for gangue all the time", circuit(50, 0, 8, 0).bestImprovement(), NONE);
        CHECK.due("a cell that gets nothing closes all", circuit(50, 50, 8, 9, 50, 100, 1, 8).bestImprovement(), NONE);
    }

    private static void improvementSmallestNumber() {
        promise(28, "Among several, the one with the smallest number is taken.");
        CHECK.due("alike", halves(50, 50).bestImprovement(), 1);
        CHECK.due("a row of six alike",
                circuit(50, 9, 1, 9, 50, 9, 2, 9, 50, 9, 3, 9, 50, 9, 4, 9, 50, 9, 5, 9, 50, 9, 8, 9).bestImprovement(), 0);
        FlotationCircuit x = row(6);
        x.setFeed(0, 0, 900);
        CHECK.due("no metal: all are 0", x.bestImprovement(), 0);
        x.setFeed(3, 100, 900);
        CHECK.due("from cell 3 on", x.bestImprovement(), 3);
        CHECK.due("all recover nothing", circuit(50, 50, 9, 9, 50, 50, 9, 9).bestImprovement(), 0);
        CHECK.due("the first is not considered, two alike", circuit(95, 9, 0, 8, 50, 9, 8, 9, 50, 9, 8, 9).bestImprovement(), 1);
        // 0.56 * 0.50 is 0.280, 0.51 * 0.55 is 0.2805: the total recovery is 280 for both.
        CHECK.due("the total recovery is a whole number", circuit(51, 9, 1, 9, 50, 9, 8, 9).bestImprovement(), 0);
        CHECK.due("a whole thousandth more", circuit(52, 9, 1, 9, 50, 9, 8, 9).bestImprovement(), 1);
    }

    private static void improvementOrNone() {
        promise(28, "Returns the cell; NONE if there is none.");
        CHECK.due("without cells", circuit().bestImprovement(), NONE);
        CHECK.due("all closed", closed().bestImprovement(), NONE);
        for (int best = 0; best < 6; best++) {
            FlotationCircuit x = circuit(90, 9, 1, 9, 90, 9, 2, 9, 90, 9, 3, 9, 90, 9, 4, 9, 90, 9, 5, 9, 90, 9, 8, 9);
            x.setRecovery(best, 0, 50);
            CHECK.due("the weakest of a row", x.bestImprovement(), best);
        }
        FlotationCircuit harmful = circuit(50, 50, 9, 8);
        CHECK.due("an improvement that takes away", harmful.bestImprovement(), 0);
    }

    private static void shutAlone() {
        promise(29, "Finds the cell that is best shut: the one for which the total recovery is greatest if this cell alone is shut.");
        CHECK.due("all to the better half", halves(30, 70).bestShutdown(), 0);
        CHECK.due("700 halved is more than all of 300", halves(70, 30).bestShutdown(), 2);
        CHECK.due("a cell that takes away", circuit(50, 50, 1, 9, 50, 50, 9, 8).bestShutdown(), 1);
        CHECK.due("each alone leaves a way out, both would not",
                circuit(50, 50, 8, 1, 60, 50, 8, 0).bestShutdown(), 0);
        changesNothingInAllScenes("bestShutdown()", x -> x.bestShutdown());
    }

    private static void shutMeansBothRecoveries() {
        description("If a cell is shut, both of its recoveries are 0.", 29);
        CHECK.due("gangue goes with the tailings too", circuit(50, 100, 0, 9).bestShutdown(), 0);
        CHECK.due("metal goes with the tailings too", circuit(100, 50, 0, 9).bestShutdown(), 0);
        CHECK.due("gangue cannot leave then", circuit(50, 50, 8, 0, 50, 50, 8, 9).bestShutdown(), 1);
        CHECK.due("the metal's way is by the tailings", circuit(100, 100, 9, 8).bestShutdown(), 0);
        FlotationCircuit x = circuit(90, 90, 9, 8, 50, 50, 8, 9);
        CHECK.due("all of the metal then", x.bestShutdown(), 0);
        CHECK.due("the metal's becomes 0, not less than all", circuit(0, 50, 9, 8, 50, 50, 8, 9).bestShutdown(), 0);
        // Shut, cell 0 sends all to cell 1, which returns all of the gangue.
        FlotationCircuit gangue = circuit(50, 50, 8, 1, 50, 100, 0, 9);
        gangue.setFeed(0, 0, 900);
        CHECK.due("no gangue leaves with the concentrate", gangue.bestShutdown(), 1);
        // Here one in 200 of the gangue gets away behind cell 1.
        FlotationCircuit nearly = circuit(50, 50, 8, 1, 50, 99, 0, 2, 50, 50, 0, 9);
        nearly.setFeed(0, 0, 900);
        CHECK.due("all of the gangue leaves with the tailings, not more", nearly.bestShutdown(), 0);
    }

    private static void shutdownNotConsidered() {
        promise(29, "Cells for which the steady state would not exist then are not considered.");
        CHECK.due("closed by it", circuit(50, 50, 8, 0).bestShutdown(), NONE);
        CHECK.due("0 would be closed, 1 is left", circuit(50, 50, 8, 0, 50, 50, 8, 9).bestShutdown(), 1);
        CHECK.due("1 would be closed, 0 is left", circuit(50, 50, 8, 9, 50, 50, 8, 1).bestShutdown(), 0);
        CHECK.due("closed now, opened by it", circuit(100, 100, 0, 9).bestShutdown(), 0);
        CHECK.due("another cell is closed now", circuit(50, 50, 8, 9, 100, 100, 1, 9).bestShutdown(), 1);
        CHECK.due("two are closed now", circuit(100, 100, 0, 9, 100, 100, 1, 9).bestShutdown(), NONE);
    }

    private static void shutdownSmallestNumber() {
        promise(29, "Among several, the one with the smallest number is taken.");
        CHECK.due("a row: all give 0", row(6).bestShutdown(), 0);
        FlotationCircuit x = halves(30, 70);
        x.setFeed(0, 0, 900);
        CHECK.due("no metal: all are 0", x.bestShutdown(), 0);
        CHECK.due("two that get nothing", circuit(50, 50, 8, 9, 50, 50, 8, 9, 50, 50, 8, 9).bestShutdown(), 1);
    }

    private static void shutdownOrNone() {
        promise(29, "Returns the cell; NONE if there is none.");
        CHECK.due("without cells", circuit().bestShutdown(), NONE);
        CHECK.due("one cell", circuit(50, 50, 8, 9).bestShutdown(), 0);
        CHECK.due("all closed", closed().bestShutdown(), NONE);
        for (int best = 0; best < 6; best++) {
            FlotationCircuit x = circuit(50, 9, 8, 1, 50, 9, 8, 2, 50, 9, 8, 3, 50, 9, 8, 4, 50, 9, 8, 5, 50, 9, 8, 9);
            for (int cell = 0; cell < 6; cell++) {
                x.setDestination(cell, 0, cell == best ? 9 : 8);
            }
            CHECK.due("the cell that throws away", x.bestShutdown(), best);
        }
    }

    private static void smallestRecoveryFor() {
        promise(30, "Returns the smallest recovery of a cell for metal for which the total recovery would be at least p, everything"
                + " else being as it is.", "`cell`: cell");
        FlotationCircuit x = circuit(80, 20, 8, 9);
        for (int p = 0; p <= 1000; p += p < 30 || p > 960 ? 1 : 3) {
            x = p % 60 == 0 ? circuit(p % 97, 20, 8, 9) : x;
            CHECK.due("recoveryFor(0, " + p + ")", x.recoveryFor(0, p), (p + 9) / 10);
        }
        for (int other = 1; other <= 100; other++) {
            FlotationCircuit y = circuit(7, 20, 1, 9, other, 20, 8, 9);
            CHECK.due("at least, not more than", y.recoveryFor(0, 5 * other), 50);
            CHECK.due("one thousandth more", y.recoveryFor(0, 5 * other + 1), fewest(other, 5 * other + 1));
        }
        for (int cell = 0; cell < 6; cell++) {
            FlotationCircuit y = row(6);
            y.setFeed(cell, 100, 900);
            y.setDestination(cell, 0, 8);
            CHECK.due("of cell " + cell, y.recoveryFor(cell, 371), 38);
        }
        changesNothing("recoveryFor(1, 333)", Boundary::lively, y -> y.recoveryFor(1, 333));
        changesNothing("recoveryFor(1, 333)", Boundary::closed, y -> y.recoveryFor(1, 333));
    }

    private static int fewest(int other, int p) {
        for (int r = 0; r <= 100; r++) {
            if (r * other / 10 >= p) {
                return r;
            }
        }
        return NONE;
    }

    private static void recoveryForNotConsidered() {
        promise(30, "Values for which the steady state would not exist are not considered.");
        CHECK.due("0 would close it", circuit(50, 50, 8, 0).recoveryFor(0, 0), 1);
        CHECK.due("1 is enough", circuit(50, 50, 8, 0).recoveryFor(0, 1000), 1);
        CHECK.due("100 would close it", circuit(50, 50, 0, 8).recoveryFor(0, 1000), 0);
        CHECK.due("100 would close it, 500 at most", circuit(50, 50, 1, 9, 50, 50, 1, 8).recoveryFor(1, 501), NONE);
        CHECK.due("the gangue is closed", circuit(50, 0, 8, 0).recoveryFor(0, 0), NONE);
        CHECK.due("another cell is closed", circuit(50, 50, 8, 9, 50, 50, 1, 1).recoveryFor(0, 0), NONE);
        CHECK.due("closed now", circuit(0, 50, 8, 0).recoveryFor(0, 500), 1);
    }

    private static void recoveryForTakes() {
        promise(30, "`p`: 0 to 1000");
        FlotationCircuit x = circuit(80, 20, 8, 9);
        CHECK.due("p 0", x.recoveryFor(0, 0), 0);
        CHECK.due("p 1", x.recoveryFor(0, 1), 1);
        CHECK.due("p 999", x.recoveryFor(0, 999), 100);
        CHECK.due("p 1000", x.recoveryFor(0, 1000), 100);
        CHECK.dueThrow("p -1", ARGUMENT, () -> x.recoveryFor(0, -1));
        CHECK.dueThrow("p 1001", ARGUMENT, () -> x.recoveryFor(0, 1001));
    }

    private static void recoveryForOrNone() {
        promise(30, "Returns the smallest such value from 0 to 100; NONE if there is none.");
        CHECK.due("0", circuit(80, 20, 9, 8).recoveryFor(0, 1000), 0);
        CHECK.due("100", circuit(80, 20, 8, 9).recoveryFor(0, 1000), 100);
        CHECK.due("just reached", circuit(10, 20, 1, 9, 99, 20, 8, 9).recoveryFor(0, 990), 100);
        CHECK.due("none", circuit(10, 20, 1, 9, 99, 20, 8, 9).recoveryFor(0, 991), NONE);
        CHECK.due("a cell that gets nothing, p 0", circuit(0, 20, 8, 9, 50, 50, 8, 9).recoveryFor(1, 0), 0);
        CHECK.due("a cell that gets nothing, p 1", circuit(0, 20, 8, 9, 50, 50, 8, 9).recoveryFor(1, 1), NONE);
        FlotationCircuit x = circuit(100, 20, 8, 9);
        x.setFeed(0, 0, 900);
        CHECK.due("no metal, p 0", x.recoveryFor(0, 0), 0);
        CHECK.due("no metal, p 1", x.recoveryFor(0, 1), NONE);
    }

    private static void recoveryForRefusesCells() {
        promise(30, "Throws `IndexOutOfBoundsException` if the cell does not exist");
        for (int cells = 0; cells <= 6; cells++) {
            int count = cells;
            for (int cell : new int[] {-1, count, 6, 7, 8, 9, NONE, MIN, MAX}) {
                for (int p : new int[] {0, 1000, -1, 1001}) {
                    refused("recoveryFor(" + cell + ", " + p + ") of " + count, INDEX, () -> row(count), x -> x.recoveryFor(cell, p));
                }
            }
            for (int cell = 0; cell < count; cell++) {
                CHECK.due("recoveryFor(" + cell + ", 0)", row(count).recoveryFor(cell, 0), 0);
            }
        }
    }

    private static void recoveryForRefusesValues() {
        promise(30, "Throws `IllegalArgumentException` if p is out of range");
        for (int p : new int[] {-1, -2, 1001, 1002, NONE, MIN, MAX}) {
            refused("recoveryFor(0, " + p + ")", ARGUMENT, Boundary::lively, x -> x.recoveryFor(0, p));
            refused("recoveryFor(5, " + p + ")", ARGUMENT, Boundary::full, x -> x.recoveryFor(5, p));
            refused("recoveryFor(1, " + p + ") without a steady state", ARGUMENT, Boundary::closed, x -> x.recoveryFor(1, p));
        }
    }
}
