/** What 'Description' says of exceptions, and what the document says of the whole class. */
final class ExceptionBoundaries extends Boundary {
    private ExceptionBoundaries() {
    }

    static void run() {
        whatItIs();
        noneIsNoResult();
        productsAreDestinations();
        indexOutOfBounds();
        illegalArgument();
        illegalState();
        firstNamedIsThrown();
        changesNothing();
        usedFor512Calls();
    }

    private static void whatItIs() {
        description("A flotation circuit (cells that separate ore into a concentrate and tailings, joined by return streams): the exact"
                + " steady state of all flows, total recovery and grade, closed loops, the cell whose improvement or shutdown matters"
                + " most, possible recoveries by measurements, and a step-by-step simulation of the contents.", 16, 22, 24, 25, 27, 28,
                29, 32);
        FlotationCircuit x = circuit(50, 10, 1, 9, 50, 10, 8, 0);
        CHECK.due("flowNumerator(0, 0)", x.flowNumerator(0, 0), 400);
        CHECK.due("flowDenominator(0, 0)", x.flowDenominator(0, 0), 3);
        CHECK.due("totalRecovery()", x.totalRecovery(), 333);
        // 100 / 3 of metal, 900 / 91 of gangue.
        CHECK.due("grade()", x.grade(), 771);
        CHECK.due("loopCount()", x.loopCount(), 1);
        // 0.275 / 0.725 is more than 0.275 / 0.775.
        CHECK.due("bestImprovement()", x.bestImprovement(), 0);
        CHECK.due("bestShutdown()", x.bestShutdown(), 0);
        x.measure(0, 333);
        CHECK.due("possibleRecoveries(1, 0)", x.possibleRecoveries(1, 0), 1);
        CHECK.due("step(3)", x.step(3), 25);
    }

    private static void noneIsNoResult() {
        description("`NONE = -9`: There is no such result.", 4, 28, 29, 30);
        CHECK.due("NONE", FlotationCircuit.NONE, -9);
        FlotationCircuit x = circuit();
        CHECK.due("no cell to improve", x.bestImprovement(), FlotationCircuit.NONE);
        CHECK.due("no cell to shut", x.bestShutdown(), FlotationCircuit.NONE);
        write(x, "F0100900");
        CHECK.due("no error", x.errorPosition(), FlotationCircuit.NONE);
        CHECK.due("no recovery", circuit(1, 1, 9, 9).recoveryFor(0, 1), FlotationCircuit.NONE);
    }

    private static void productsAreDestinations() {
        description("`FINAL_CONCENTRATE = 8, FINAL_TAILINGS = 9`: Destinations that are products.", 11, 14, 20, 22);
        CHECK.due("FINAL_CONCENTRATE", FlotationCircuit.FINAL_CONCENTRATE, 8);
        CHECK.due("FINAL_TAILINGS", FlotationCircuit.FINAL_TAILINGS, 9);
        FlotationCircuit x = circuit(30, 60, FlotationCircuit.FINAL_CONCENTRATE, FlotationCircuit.FINAL_TAILINGS);
        x.step(2);
        CHECK.due("metal in the concentrate", x.amount(FlotationCircuit.FINAL_CONCENTRATE, 0), 30);
        CHECK.due("metal in the tailings", x.amount(FlotationCircuit.FINAL_TAILINGS, 0), 70);
        CHECK.due("flow of gangue into the tailings", x.flowNumerator(FlotationCircuit.FINAL_TAILINGS, 1), 360);
    }

    private static void indexOutOfBounds() {
        description("IndexOutOfBoundsException means that a cell does not exist, that a component, a stream or a slot is not 0 or 1,"
                + " or that a product is not 8 or 9.", 7, 8, 10, 13, 14, 19, 20, 22, 23, 26, 30, 32, 34, 35);
        for (int cell : new int[] {-1, 3, 6, 8}) {
            refused("recovery", INDEX, Boundary::lively, x -> x.recovery(cell, 0));
            refused("destination", INDEX, Boundary::lively, x -> x.destination(cell, 0));
            refused("setRecovery", INDEX, Boundary::lively, x -> x.setRecovery(cell, 0, 1));
            refused("setDestination", INDEX, Boundary::lively, x -> x.setDestination(cell, 0, 1));
            refused("content", INDEX, Boundary::lively, x -> x.content(cell, 0));
            refused("isInLoop", INDEX, Boundary::lively, x -> x.isInLoop(cell) ? 1 : 0);
            refused("recoveryFor", INDEX, Boundary::lively, x -> x.recoveryFor(cell, 1));
            refused("possibleRecoveries", INDEX, Boundary::lively, x -> x.possibleRecoveries(cell, 0));
        }
        for (int half : new int[] {-1, 2}) {
            refused("recovery", INDEX, Boundary::lively, x -> x.recovery(0, half));
            refused("destination", INDEX, Boundary::lively, x -> x.destination(0, half));
            refused("feedAmount", INDEX, Boundary::lively, x -> x.feedAmount(half));
            refused("setRecovery", INDEX, Boundary::lively, x -> x.setRecovery(0, half, 1));
            refused("setDestination", INDEX, Boundary::lively, x -> x.setDestination(0, half, 1));
            refused("content", INDEX, Boundary::lively, x -> x.content(0, half));
            refused("amount", INDEX, Boundary::lively, x -> x.amount(8, half));
            refused("flowNumerator", INDEX, Boundary::lively, x -> x.flowNumerator(0, half));
            refused("flowDenominator", INDEX, Boundary::lively, x -> x.flowDenominator(0, half));
            refused("possibleRecoveries", INDEX, Boundary::lively, x -> x.possibleRecoveries(0, half));
            refused("save", INDEX, Boundary::lively, x -> x.save(half));
            refused("restore", INDEX, Boundary::lively, x -> x.restore(half));
        }
        for (int product : new int[] {7, 10}) {
            refused("amount", INDEX, Boundary::lively, x -> x.amount(product, 0));
            refused("flowNumerator", INDEX, Boundary::lively, x -> x.flowNumerator(product, 0));
            refused("flowDenominator", INDEX, Boundary::lively, x -> x.flowDenominator(product, 0));
        }
    }

    private static void illegalArgument() {
        description("IllegalArgumentException means that another argument is out of its range.", 2, 11, 13, 14, 15, 16, 30, 31, 33);
        refusedInAllScenes("append(256)", ARGUMENT, x -> x.append(256));
        refusedInAllScenes("addCell(101, 0, 8, 9)", ARGUMENT, x -> x.addCell(101, 0, 8, 9));
        refusedInAllScenes("addCell(0, 0, 8, 6)", ARGUMENT, x -> x.addCell(0, 0, 8, 6));
        refused("setRecovery(0, 0, 101)", ARGUMENT, Boundary::lively, x -> x.setRecovery(0, 0, 101));
        refused("setDestination(0, 0, 7)", ARGUMENT, Boundary::lively, x -> x.setDestination(0, 0, 7));
        refusedInAllScenes("setFeed(6, 0, 0)", ARGUMENT, x -> x.setFeed(6, 0, 0));
        refusedInAllScenes("step(0)", ARGUMENT, x -> x.step(0));
        refused("recoveryFor(0, 1001)", ARGUMENT, Boundary::lively, x -> x.recoveryFor(0, 1001));
        refusedInAllScenes("measure(2, 0)", ARGUMENT, x -> x.measure(2, 0));
        refusedInAllScenes("disturb(0, 0)", ARGUMENT, x -> x.disturb(0, 0));
    }

    private static void illegalState() {
        description("IllegalStateException means that the call is not possible now, as the method says.", 2, 5, 11, 12, 18, 22, 23,
                24, 25, 35);
        refused("append to a full text", STATE, Boundary::full, x -> x.append('F'));
        refused("load() of half a text", STATE, Boundary::closed, x -> x.load());
        refused("addCell to six cells", STATE, Boundary::full, x -> x.addCell(1, 1, 8, 9));
        refused("removeLastCell() without cells", STATE, FlotationCircuit::new, x -> x.removeLastCell());
        refused("undo() of nothing", STATE, FlotationCircuit::new, x -> x.undo());
        refused("flowNumerator(0, 0)", STATE, Boundary::closed, x -> x.flowNumerator(0, 0));
        refused("flowDenominator(0, 0)", STATE, Boundary::closed, x -> x.flowDenominator(0, 0));
        refused("totalRecovery()", STATE, Boundary::closed, x -> x.totalRecovery());
        refused("grade()", STATE, Boundary::closed, x -> x.grade());
        refused("restore(1), empty", STATE, Boundary::lively, x -> x.restore(1));
        FlotationCircuit x = closed();
        x.setDestination(1, 0, 8);
        answers("grade() as soon as it is possible", x, y -> y.grade());
        for (Call call : new Call[] {y -> y.bestImprovement(), y -> y.bestShutdown(), y -> y.recoveryFor(0, 0),
            y -> y.possibleRecoveries(0, 0), y -> y.loopCount(), y -> y.disturb(1, 9)}) {
            answers("without a steady state", closed(), call);
        }
    }

    private static void firstNamedIsThrown() {
        description("If several exceptions apply to a call, the one that its description names first is thrown.", 2, 11, 13, 14, 22,
                23, 30, 35);
        refused("append(256) to a full text", ARGUMENT, Boundary::full, x -> x.append(256));
        refused("addCell out of range to six cells", ARGUMENT, Boundary::full, x -> x.addCell(0, 0, 8, 10));
        refused("setRecovery, cell and r", INDEX, Boundary::full, x -> x.setRecovery(6, 0, 101));
        refused("setRecovery, component and r", INDEX, Boundary::full, x -> x.setRecovery(0, 2, 101));
        refused("setDestination, cell and to", INDEX, Boundary::full, x -> x.setDestination(6, 0, 7));
        refused("setDestination, stream and to", INDEX, Boundary::full, x -> x.setDestination(0, 2, 7));
        refused("flowNumerator, to and no steady state", INDEX, Boundary::closed, x -> x.flowNumerator(2, 0));
        refused("flowNumerator, component and no steady state", INDEX, Boundary::closed, x -> x.flowNumerator(0, 2));
        refused("flowDenominator, to and no steady state", INDEX, Boundary::closed, x -> x.flowDenominator(7, 0));
        refused("flowDenominator, component and no steady state", INDEX, Boundary::closed, x -> x.flowDenominator(8, -1));
        refused("recoveryFor, cell and p", INDEX, Boundary::full, x -> x.recoveryFor(6, 1001));
        refused("restore of a slot that is none, all empty", INDEX, FlotationCircuit::new, x -> x.restore(2));
    }

    private static void changesNothing() {
        description("A call that throws an exception changes nothing.", 2, 5, 7, 8, 10, 11, 12, 13, 14, 15, 16, 18, 19, 20, 22, 23, 24,
                25, 26, 30, 31, 32, 33, 34, 35);
        Call[] wrong = {
            x -> x.append(-1), x -> x.recovery(6, 0), x -> x.destination(0, 2), x -> x.feedAmount(2), x -> x.addCell(0, 0, 8, 7),
            x -> x.setRecovery(0, 0, 101), x -> x.setDestination(0, 0, 6), x -> x.setFeed(0, 5, 1000), x -> x.setFeed(5, 1000, 5),
            x -> x.step(101), x -> x.content(6, 0), x -> x.amount(7, 0), x -> x.flowNumerator(6, 0), x -> x.flowDenominator(0, 2),
            x -> x.isInLoop(6) ? 1 : 0, x -> x.recoveryFor(0, 1001), x -> x.measure(0, 1001), x -> x.measure(2, 0),
            x -> x.possibleRecoveries(6, 0), x -> x.disturb(0, 101), x -> x.save(2), x -> x.restore(2),
        };
        FlotationCircuit x = lively();
        for (int round = 0; round < 5; round++) {
            for (Call call : wrong) {
                try {
                    call.on(x);
                    CHECK.isTrue("the call throws", false);
                } catch (RuntimeException e) {
                    CHECK.isTrue("the call throws", true);
                }
            }
        }
        same("the state", x, lively());
        CHECK.due("the text", x.errorPosition(), NONE);
        CHECK.due("the measurements", x.possibleRecoveries(0, 0), lively().possibleRecoveries(0, 0));
        CHECK.due("the number of measurements", x.measure(0, 0), 4);
        CHECK.due("the remembered states", x.undo(), 13);
        CHECK.due("the slot", x.restore(0), 3);
        CHECK.dueThrow("the empty slot", STATE, () -> x.restore(1));
    }

    /** All of the 512 calls must answer right, the last too. */
    private static void usedFor512Calls() {
        description("An object is used for at most 512 calls after it has been made; what later calls answer is free.", 16, 18, 19, 31);
        FlotationCircuit x = circuit(0, 0, 8, 0);
        x.setFeed(0, 999, 998);
        for (int i = 0; i < 509; i++) {
            x.step(100);
        }
        CHECK.due("the greatest content, at the 512th call", x.content(0, 0), 999L * 50900);
        FlotationCircuit texts = new FlotationCircuit();
        for (int i = 0; i < 511; i++) {
            texts.measure(i % 2, i % 1000);
        }
        CHECK.due("the 512th measurement", texts.measure(0, 0), 5);
        FlotationCircuit actions = new FlotationCircuit();
        for (int i = 0; i < 510; i++) {
            actions.setFeed(0, i, 0);
        }
        CHECK.due("undo() as the 511th call", actions.undo(), 13);
        CHECK.due("the 512th call", actions.feedAmount(0), 508);
    }
}
