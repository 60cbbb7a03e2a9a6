import java.util.ArrayDeque;
import java.util.Deque;

/** Promise 18, and what 'Description' says of actions. */
final class UndoBoundaries extends Boundary {
    private UndoBoundaries() {
    }

    static void run() {
        actionsChangeTheState();
        eachCallIsAnAction();
        otherCallsAreNoActions();
        refusedCallsAreNoActions();
        fourteenAreRemembered();
        theRingGoesRound();
        notPartOfTheState();
        undoLoadAndRestoreAreNoActions();
        undoTakesBackTheLast();
        undoReturnsWhatIsLeft();
        undoRefuses();
    }

    private static final Call[] ACTIONS = {
        x -> x.addCell(1, 2, 3, 4), x -> x.removeLastCell(), x -> x.setRecovery(0, 0, 77), x -> x.setRecovery(1, 1, 78),
        x -> x.setDestination(0, 0, 2), x -> x.setDestination(1, 1, 8), x -> x.setFeed(2, 6, 7), x -> x.step(1),
        x -> x.step(100), x -> x.drain(),
    };

    /** Three cells with contents and amounts, made by five actions. */
    private static FlotationCircuit stirred() {
        FlotationCircuit x = circuit(50, 10, 1, 9, 60, 20, 8, 0, 35, 45, 8, 1);
        x.setFeed(0, 321, 654);
        x.step(9);
        return x;
    }

    private static void actionsChangeTheState() {
        description("The methods in the section \"actions\" change the state, which consists of the cells, the feed, the contents"
                + " and the amounts of the products.", 11, 12, 13, 14, 15, 16, 17, 18);
        for (Call action : ACTIONS) {
            FlotationCircuit x = stirred();
            action.on(x);
            CHECK.due("one action more", x.undo(), 5);
            same("cells, feed, contents and amounts are back", x, stirred());
        }
        FlotationCircuit x = stirred();
        for (Call action : ACTIONS) {
            action.on(x);
        }
        for (int left = 13; left >= 4; left--) {
            CHECK.due("undo() of 15 actions", x.undo(), left);
        }
        same("all ten taken back", x, stirred());
    }

    private static void eachCallIsAnAction() {
        description("Each call of one of them that does not throw an exception is an action.", 11, 12, 13, 14, 15, 16, 17, 18);
        FlotationCircuit x = circuit(50, 10, 8, 9);
        Call[] withoutChange = {
            y -> y.setRecovery(0, 0, 50), y -> y.setRecovery(0, 1, 10), y -> y.setDestination(0, 0, 8),
            y -> y.setDestination(0, 1, 9), y -> y.setFeed(0, 100, 900), y -> y.drain(), y -> y.drain(),
        };
        int actions = 1;
        for (Call call : withoutChange) {
            call.on(x);
            actions++;
            CHECK.due("an action that changes nothing counts", x.undo(), actions - 1);
            call.on(x);
        }
        FlotationCircuit still = circuit(50, 10, 8, 9);
        still.setFeed(0, 0, 0);
        still.step(100);
        CHECK.due("a step that moves nothing counts", still.undo(), 2);
    }

    private static void otherCallsAreNoActions() {
        description("The methods in the section \"actions\" change the state, which consists of the cells, the feed, the contents"
                + " and the amounts of the products.", 2, 3, 4, 6, 7, 8, 9, 10, 19, 20, 21, 22, 23, 24, 25, 26, 27, 28, 29, 30, 31,
                32, 33, 34);
        Call[] questions = {
            x -> x.append('F'), x -> x.clearText(), x -> x.errorPosition(), x -> x.cellCount(), x -> x.recovery(0, 0),
            x -> x.destination(0, 0), x -> x.feedCell(), x -> x.feedAmount(0), x -> x.content(0, 0), x -> x.amount(8, 0),
            x -> x.hasSteadyState() ? 1 : 0, x -> x.flowNumerator(0, 0), x -> x.flowDenominator(0, 0), x -> x.totalRecovery(),
            x -> x.grade(), x -> x.isInLoop(0) ? 1 : 0, x -> x.loopCount(), x -> x.bestImprovement(), x -> x.bestShutdown(),
            x -> x.recoveryFor(0, 5), x -> x.measure(0, 5), x -> x.possibleRecoveries(0, 0), x -> x.disturb(3, 9), x -> x.save(0),
        };
        for (Call question : questions) {
            FlotationCircuit x = stirred();
            question.on(x);
            same("the state stays", x, stirred());
            CHECK.due("it is no action", x.undo(), 4);
        }
    }

    private static void refusedCallsAreNoActions() {
        description("A call that throws an exception changes nothing.", 11, 12, 13, 14, 15, 16, 18);
        Call[] wrong = {
            x -> x.addCell(101, 0, 8, 9), x -> x.setRecovery(3, 0, 1), x -> x.setRecovery(0, 0, 101),
            x -> x.setDestination(0, 2, 1), x -> x.setDestination(0, 0, 7), x -> x.setFeed(6, 0, 0), x -> x.step(0),
            x -> x.step(101), x -> x.restore(1), x -> x.restore(2), x -> x.load(),
        };
        FlotationCircuit x = stirred();
        for (Call call : wrong) {
            try {
                call.on(x);
                CHECK.isTrue("the call throws", false);
            } catch (RuntimeException e) {
                same("the state stays", x, stirred());
            }
        }
        CHECK.due("none of them is an action", x.undo(), 4);
    }

    private static void fourteenAreRemembered() {
        description("The state before each of the last 14 actions is remembered; when a fifteenth action happens, the oldest"
                + " remembered state is forgotten.", 18);
        for (int actions = 0; actions <= 45; actions++) {
            FlotationCircuit x = new FlotationCircuit();
            x.setFeed(0, 500, 500);
            x.save(0);
            x.restore(0);
            for (int i = 1; i <= actions; i++) {
                x.setFeed(0, i, 0);
            }
            int remembered = Math.min(actions, 14);
            for (int taken = 1; taken <= remembered; taken++) {
                CHECK.due("undo() " + taken + " of " + actions + " actions", x.undo(), remembered - taken);
                int before = actions - taken;
                CHECK.due("the state before", x.feedAmount(0), before == 0 ? 500 : before);
            }
            CHECK.dueThrow("undo() beyond " + remembered, STATE, () -> x.undo());
            int oldest = actions - remembered;
            CHECK.due("the state stays", x.feedAmount(0), oldest == 0 ? 500 : oldest);
        }
    }

    /** Actions and undos in turn, against a simple list of the values before. */
    private static void theRingGoesRound() {
        promise(18, "Takes back the last action that is remembered.");
        for (int mixture = 1; mixture <= 200; mixture++) {
            FlotationCircuit x = new FlotationCircuit();
            Deque<Integer> before = new ArrayDeque<>();
            int present = 100;
            long dice = mixture;
            for (int i = 0; i < 200; i++) {
                dice = dice * 6364136223846793005L + 1442695040888963407L;
                if ((dice >>> 40) % 100 < 30 + mixture % 40) {
                    if (before.isEmpty()) {
                        CHECK.dueThrow("undo() of nothing", STATE, () -> x.undo());
                    } else {
                        present = before.removeLast();
                        CHECK.due("undo()", x.undo(), before.size());
                    }
                } else {
                    before.addLast(present);
                    present = i;
                    x.setFeed(0, i, 0);
                    if (before.size() > 14) {
                        before.removeFirst();
                    }
                }
                CHECK.due("the present state", x.feedAmount(0), present);
            }
        }
    }

    private static void notPartOfTheState() {
        description("The text, the measurements and the save slots are not part of the state.", 18, 34, 35);
        FlotationCircuit x = circuit(80, 20, 8, 9);
        x.step(1);
        x.append('F');
        x.measure(0, 800);
        x.save(1);
        x.undo();
        CHECK.due("undo() leaves the text", x.append('0'), 2);
        CHECK.due("undo() leaves the measurements", x.measure(1, 307), 2);
        CHECK.due("they still count", x.possibleRecoveries(0, 0), 1);
        x.undo();
        CHECK.due("undo() leaves the slot", x.restore(1), 1);
        CHECK.due("the slot's content", x.content(0, 0), 100);
        CHECK.due("restore() leaves the text", x.append('1'), 3);
        CHECK.due("restore() leaves the measurements", x.measure(0, 800), 3);
        x.save(0);
        CHECK.due("restore() leaves the other slot", x.restore(0), 1);
        CHECK.due("and its own", x.restore(1), 1);
        x.clearText();
        x.save(0);
        x.drain();
        x.undo();
        CHECK.due("undo() does not bring back the text", x.append('F'), 1);
    }

    private static void undoLoadAndRestoreAreNoActions() {
        description("undo, load and restore are not actions.", 5, 18, 35);
        FlotationCircuit x = circuit(80, 20, 8, 9, 50, 50, 8, 9);
        x.undo();
        CHECK.due("undo() cannot be taken back", x.undo(), 0);
        CHECK.due("the state before the first", x.cellCount(), 0);
        CHECK.dueThrow("undo() then", STATE, () -> x.undo());
        write(x, "F0100900C802089");
        x.load();
        CHECK.dueThrow("undo() of load()", STATE, () -> x.undo());
        x.save(0);
        x.step(1);
        x.restore(0);
        CHECK.dueThrow("undo() of restore()", STATE, () -> x.undo());
        x.step(1);
        CHECK.due("one action behind restore()", x.undo(), 0);
    }

    private static void undoTakesBackTheLast() {
        promise(18, "Takes back the last action that is remembered.");
        FlotationCircuit x = circuit(50, 50, 8, 9);
        x.setRecovery(0, 0, 1);
        x.setRecovery(0, 0, 2);
        x.setRecovery(0, 0, 3);
        x.undo();
        CHECK.due("the last alone", x.recovery(0, 0), 2);
        x.setRecovery(0, 0, 4);
        x.undo();
        CHECK.due("the action behind it", x.recovery(0, 0), 2);
        x.undo();
        x.undo();
        CHECK.due("those before", x.recovery(0, 0), 50);
        FlotationCircuit removed = row(6);
        removed.setFeed(5, 11, 12);
        removed.step(1);
        removed.removeLastCell();
        removed.undo();
        CHECK.due("a removed cell comes back", removed.cellCount(), 6);
        CHECK.due("with its metal", removed.content(5, 0), 11);
        CHECK.due("with its gangue", removed.content(5, 1), 12);
        CHECK.due("with its recovery", removed.recovery(5, 1), 15);
        CHECK.due("with its destination", removed.destination(5, 0), 8);
        FlotationCircuit stepped = stirred();
        stepped.step(100);
        stepped.undo();
        same("all steps of a call at once", stepped, stirred());
    }

    private static void undoReturnsWhatIsLeft() {
        promise(18, "Returns how many states are still remembered.");
        for (int actions = 1; actions <= 16; actions++) {
            FlotationCircuit x = new FlotationCircuit();
            for (int i = 0; i < actions; i++) {
                x.drain();
            }
            CHECK.due("undo() of " + actions + " actions", x.undo(), Math.min(actions, 14) - 1);
            x.drain();
            CHECK.due("undo() of one more", x.undo(), Math.min(actions, 14) - 1);
        }
    }

    private static void undoRefuses() {
        promise(18, "Throws `IllegalStateException` if none is remembered");
        refused("undo() of a new object", STATE, FlotationCircuit::new, x -> x.undo());
        refused("undo() behind as many as were remembered", STATE, UndoBoundaries::takenBack, x -> x.undo());
        refused("undo() behind load()", STATE, UndoBoundaries::loaded, x -> x.undo());
        refused("undo() behind restore()", STATE, UndoBoundaries::restored, x -> x.undo());
        FlotationCircuit x = takenBack();
        x.drain();
        CHECK.due("undo() of an action then", x.undo(), 0);
    }

    private static FlotationCircuit takenBack() {
        FlotationCircuit x = lively();
        for (int i = 0; i < 14; i++) {
            x.undo();
        }
        return x;
    }

    private static FlotationCircuit loaded() {
        FlotationCircuit x = lively();
        x.load();
        return x;
    }

    private static FlotationCircuit restored() {
        FlotationCircuit x = lively();
        x.restore(0);
        return x;
    }
}
