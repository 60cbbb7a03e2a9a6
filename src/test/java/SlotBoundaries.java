/** Promises 34 and 35: the two save slots. */
final class SlotBoundaries extends Boundary {
    private SlotBoundaries() {
    }

    static void run() {
        saveStores();
        saveReturnsTheCells();
        saveRefuses();
        restoreReplacesAndForgets();
        slotKeepsItsState();
        restoreReturnsTheCells();
        restoreRefusesSlots();
        restoreRefusesEmptySlots();
    }

    private static void saveStores() {
        promise(34, "Stores the present state in a slot.", "`slot`: 0 or 1");
        for (int slot = 0; slot < 2; slot++) {
            for (Scene scene : new Scene[] {FlotationCircuit::new, Boundary::lively, Boundary::full, Boundary::closed}) {
                FlotationCircuit x = scene.make();
                x.save(slot);
                same("saving changes no state", x, scene.make());
                spoil(x);
                x.restore(slot);
                same("restored from slot " + slot, x, scene.make());
            }
        }
        FlotationCircuit twice = row(2);
        twice.save(0);
        twice.removeLastCell();
        twice.save(1);
        twice.removeLastCell();
        twice.save(0);
        CHECK.due("the newer state of slot 0", twice.restore(0), 0);
        CHECK.due("slot 1 has its own", twice.restore(1), 1);
        FlotationCircuit saved = lively();
        saved.save(1);
        CHECK.due("saving is no action and forgets none", saved.undo(), 13);
    }

    /** Changes all that a state has. */
    private static void spoil(FlotationCircuit x) {
        if (x.cellCount() == 6) {
            x.removeLastCell();
        }
        x.addCell(3, 97, 0, 1);
        x.setRecovery(0, 0, 13);
        x.setRecovery(0, 1, 14);
        x.setDestination(0, 0, 5);
        x.setDestination(0, 1, 4);
        x.setFeed(2, 888, 777);
        x.step(33);
    }

    private static void saveReturnsTheCells() {
        promise(34, "Returns the number of cells.");
        for (int cells = 0; cells <= 6; cells++) {
            CHECK.due("save(0)", row(cells).save(0), cells);
            CHECK.due("save(1)", row(cells).save(1), cells);
        }
    }

    private static void saveRefuses() {
        promise(34, "Throws `IndexOutOfBoundsException` if there is no such slot");
        answers("save(0)", lively(), x -> x.save(0));
        answers("save(1)", lively(), x -> x.save(1));
        for (int slot : new int[] {-1, 2, 3, 8, NONE, MIN, MAX}) {
            refusedInAllScenes("save(" + slot + ")", INDEX, x -> x.save(slot));
        }
    }

    private static void restoreReplacesAndForgets() {
        promise(35, "Replaces the state by the one in a slot, and forgets all remembered states.", "`slot`: 0 or 1");
        for (int slot = 0; slot < 2; slot++) {
            FlotationCircuit x = lively();
            x.save(slot);
            x.step(1);
            CHECK.due("restore(" + slot + ")", x.restore(slot), 3);
            same("the state is back", x, lively());
            CHECK.dueThrow("undo() then", STATE, () -> x.undo());
            x.drain();
            CHECK.due("one action behind it", x.undo(), 0);
            same("the restored state", x, lively());
            CHECK.dueThrow("undo() then", STATE, () -> x.undo());
        }
        FlotationCircuit x = row(1);
        x.save(0);
        CHECK.due("the same state", x.restore(0), 1);
        CHECK.dueThrow("it forgets also then", STATE, () -> x.undo());
        for (int i = 0; i < 20; i++) {
            x.drain();
        }
        CHECK.due("14 are remembered again", x.undo(), 13);
    }

    private static void slotKeepsItsState() {
        promise(35, "The slot keeps its state.");
        FlotationCircuit x = lively();
        x.save(1);
        for (int round = 0; round < 5; round++) {
            spoil(x);
            CHECK.due("restore(1)", x.restore(1), 3);
            same("round " + round, x, lively());
        }
        spoil(x);
        x.undo();
        x.restore(0);
        x.restore(1);
        same("behind undo and the other slot", x, lively());
    }

    private static void restoreReturnsTheCells() {
        promise(35, "Returns the number of cells.");
        for (int cells = 0; cells <= 6; cells++) {
            FlotationCircuit x = row(cells);
            x.save(0);
            x.save(1);
            while (x.cellCount() > 0) {
                x.removeLastCell();
            }
            CHECK.due("restore(0)", x.restore(0), cells);
            CHECK.due("cellCount()", x.cellCount(), cells);
            CHECK.due("restore(1)", x.restore(1), cells);
        }
    }

    private static void restoreRefusesSlots() {
        promise(35, "Throws `IndexOutOfBoundsException` if there is no such slot");
        for (int slot : new int[] {-1, 2, 3, 8, NONE, MIN, MAX}) {
            refusedInAllScenes("restore(" + slot + ")", INDEX, x -> x.restore(slot));
        }
    }

    private static void restoreRefusesEmptySlots() {
        promise(35, "Throws `IllegalStateException` if the slot is empty");
        refused("restore(0) of a new object", STATE, FlotationCircuit::new, x -> x.restore(0));
        refused("restore(1) of a new object", STATE, FlotationCircuit::new, x -> x.restore(1));
        refused("restore(1) when slot 0 is filled", STATE, Boundary::lively, x -> x.restore(1));
        refused("restore(0) behind load()", STATE, SlotBoundaries::loaded, x -> x.restore(0));
        refused("restore(1) behind load()", STATE, SlotBoundaries::loaded, x -> x.restore(1));
        FlotationCircuit x = new FlotationCircuit();
        x.save(1);
        CHECK.dueThrow("restore(0) when slot 1 is filled", STATE, () -> x.restore(0));
        CHECK.due("a state without cells is a state", x.restore(1), 0);
        CHECK.dueThrow("restore(0) still", STATE, () -> x.restore(0));
        x.save(0);
        CHECK.due("restore(0) when it is filled", x.restore(0), 0);
    }

    private static FlotationCircuit loaded() {
        FlotationCircuit x = lively();
        x.save(1);
        x.load();
        return x;
    }
}
