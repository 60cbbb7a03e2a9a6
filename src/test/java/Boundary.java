import java.util.ArrayList;
import java.util.HashSet;
import java.util.List;
import java.util.Set;

/**
 * What the boundary tests share: the sentence of the document that a test is for, the scenes in which calls
 * are made, and the comparison of an object with its twin, which did not get the call.
 */
abstract class Boundary {
    static final Class<IndexOutOfBoundsException> INDEX = IndexOutOfBoundsException.class;
    static final Class<IllegalArgumentException> ARGUMENT = IllegalArgumentException.class;
    static final Class<IllegalStateException> STATE = IllegalStateException.class;
    static final int NONE = -9;
    static final int MIN = Integer.MIN_VALUE, MAX = Integer.MAX_VALUE;
    static final String SIX_CELLS = "F1123456C010289C030401C050623C070845C091098C111299";

    static final Check CHECK = new Check();

    private static final long THROWN = Long.MIN_VALUE;
    private static final Set<String> NAMED = new HashSet<>();

    interface Call {
        long on(FlotationCircuit x);
    }

    interface PairCall {
        long on(FlotationCircuit x, int first, int second);
    }

    interface Scene {
        FlotationCircuit make();
    }

    /** Reads all that one part of an object tells; it may change the object, which is given up then. */
    interface Reading {
        void read(FlotationCircuit x, List<Long> answers);
    }

    private static final Scene[] SCENES = {
        FlotationCircuit::new, Boundary::lively, Boundary::full, Boundary::closed,
    };

    /** Each reads another object, so that no object gets more than 512 calls. */
    private static final Reading[] READINGS = {
        Boundary::readPresent, Boundary::readHistory, Boundary::readSlots, Boundary::readText,
    };

    // ---- the sentences

    /** Begins the test of sentences that stand under a promise. */
    static void promise(int number, String... sentences) {
        StringBuilder part = new StringBuilder("promise " + number);
        for (String sentence : sentences) {
            NAMED.add(key(number, sentence));
            part.append(" \"").append(sentence).append('"');
        }
        CHECK.part(part.toString());
    }

    /** Begins the test of a sentence of 'Description', with the promises that it bears on. */
    static void description(String sentence, int... promises) {
        NAMED.add(key(0, sentence));
        StringBuilder part = new StringBuilder("promises");
        for (int number : promises) {
            part.append(' ').append(number);
        }
        CHECK.part(part + " \"" + sentence + '"');
    }

    static Set<String> named() {
        return NAMED;
    }

    static String key(int number, String sentence) {
        return number + "|" + Document.plain(sentence);
    }

    // ---- objects

    static FlotationCircuit circuit(int... cells) {
        FlotationCircuit x = new FlotationCircuit();
        for (int i = 0; i + 3 < cells.length; i += 4) {
            x.addCell(cells[i], cells[i + 1], cells[i + 2], cells[i + 3]);
        }
        return x;
    }

    /** Cells in a row: each one's concentrate goes to the next, the last one's to the product. */
    static FlotationCircuit row(int cells) {
        FlotationCircuit x = new FlotationCircuit();
        for (int cell = 0; cell < cells; cell++) {
            x.addCell(50 + cell, 10 + cell, cell + 1 < cells ? cell + 1 : 8, 9);
        }
        return x;
    }

    static void write(FlotationCircuit x, String text) {
        x.clearText();
        for (int i = 0; i < text.length(); i++) {
            x.append(text.charAt(i));
        }
    }

    /** Three cells, more than 14 actions, slot 0 filled, three measurements, a complete text. */
    static FlotationCircuit lively() {
        FlotationCircuit x = circuit(50, 10, 1, 9, 60, 20, 8, 0, 35, 45, 8, 1);
        x.setFeed(0, 321, 654);
        x.step(7);
        x.save(0);
        for (int i = 1; i <= 6; i++) {
            x.setRecovery(2, i % 2, 30 + i);
            x.step(i);
        }
        x.measure(0, x.totalRecovery());
        x.measure(1, x.grade());
        x.measure(0, x.totalRecovery());
        write(x, "F3123456C405098");
        return x;
    }

    /** Six cells, both slots filled, seven measurements of which five are stored, a full text. */
    static FlotationCircuit full() {
        FlotationCircuit x = row(6);
        x.setFeed(5, 999, 1);
        x.save(0);
        x.step(9);
        x.save(1);
        for (int i = 0; i < 7; i++) {
            x.measure(i % 2, i < 2 ? 1 : i % 2 == 0 ? x.totalRecovery() : x.grade());
        }
        write(x, SIX_CELLS + "C010289C01");
        return x;
    }

    /** Two cells without a steady state, half a text. */
    static FlotationCircuit closed() {
        FlotationCircuit x = circuit(50, 50, 1, 1, 40, 60, 0, 0);
        x.step(3);
        x.measure(0, 0);
        write(x, "F0100900C80");
        return x;
    }

    // ---- calls

    /** The call throws just that, and the object is as its twin, which did not get the call. */
    static void refused(String what, Class<? extends RuntimeException> want, Scene scene, Call call) {
        for (Reading reading : READINGS) {
            FlotationCircuit x = scene.make();
            CHECK.dueThrow(what, want, () -> call.on(x));
            compare(what, reading, x, scene.make());
        }
    }

    static void refusedInAllScenes(String what, Class<? extends RuntimeException> want, Call call) {
        for (Scene scene : SCENES) {
            refused(what, want, scene, call);
        }
    }

    /** The call answers, and the object is as its twin, which did not get the call. */
    static void changesNothing(String what, Scene scene, Call call) {
        for (Reading reading : READINGS) {
            FlotationCircuit x = scene.make();
            answers(what, x, call);
            compare(what, reading, x, scene.make());
        }
    }

    static void changesNothingInAllScenes(String what, Call call) {
        for (Scene scene : SCENES) {
            changesNothing(what, scene, call);
        }
    }

    static void answers(String what, FlotationCircuit x, Call call) {
        try {
            call.on(x);
            CHECK.isTrue(what, true);
        } catch (RuntimeException e) {
            CHECK.isTrue(what + " answers without " + e, false);
        }
    }

    /** Two objects that must be alike in all that can be read of the state. */
    static void same(String what, FlotationCircuit x, FlotationCircuit y) {
        List<Long> of = new ArrayList<>();
        List<Long> due = new ArrayList<>();
        readState(x, of);
        readState(y, due);
        CHECK.isTrue(what + ": " + of + " is as " + due, of.equals(due));
    }

    private static void compare(String what, Reading reading, FlotationCircuit x, FlotationCircuit twin) {
        List<Long> of = new ArrayList<>();
        List<Long> due = new ArrayList<>();
        reading.read(x, of);
        reading.read(twin, due);
        CHECK.isTrue("nothing changed by " + what + ": " + of + " is as " + due, of.equals(due));
    }

    /** For methods of a cell and one of two: each number of cells, the last cell and the first that is none. */
    static void cellAndOneOfTwo(String name, PairCall call) {
        for (int cells = 0; cells <= 6; cells++) {
            int count = cells;
            for (int cell : new int[] {-1, count, 6, 7, 8, 9, NONE, MIN, MAX}) {
                refused(name + "(" + cell + ", 0) of " + count + " cells", INDEX, () -> row(count), x -> call.on(x, cell, 0));
                refused(name + "(" + cell + ", 1) of " + count + " cells", INDEX, () -> row(count), x -> call.on(x, cell, 1));
            }
            for (int cell = 0; cell < count; cell++) {
                int existing = cell;
                answers(name + "(" + cell + ", 0) of " + count + " cells", row(count), x -> call.on(x, existing, 0));
                answers(name + "(" + cell + ", 1) of " + count + " cells", row(count), x -> call.on(x, existing, 1));
            }
        }
        for (int half : new int[] {-1, 2, 3, 8, NONE, MIN, MAX}) {
            for (int cell = 0; cell < 6; cell++) {
                int existing = cell;
                refused(name + "(" + cell + ", " + half + ")", INDEX, () -> row(6), x -> call.on(x, existing, half));
            }
            refused(name + "(6, " + half + ")", INDEX, () -> row(6), x -> call.on(x, 6, half));
        }
    }

    // ---- readings

    private static void readState(FlotationCircuit x, List<Long> answers) {
        int cells = x.cellCount();
        add(answers, cells, x.feedCell(), x.feedAmount(0), x.feedAmount(1));
        add(answers, x.amount(8, 0), x.amount(8, 1), x.amount(9, 0), x.amount(9, 1));
        for (int cell = 0; cell < cells; cell++) {
            add(answers, x.recovery(cell, 0), x.recovery(cell, 1), x.destination(cell, 0), x.destination(cell, 1));
            add(answers, x.content(cell, 0), x.content(cell, 1));
        }
    }

    private static void add(List<Long> answers, long... more) {
        for (long answer : more) {
            answers.add(answer);
        }
    }

    private static void readPresent(FlotationCircuit x, List<Long> answers) {
        readState(x, answers);
        if (x.cellCount() == 0) {
            x.addCell(80, 20, 8, 9);
        }
        readPossible(x, answers);
        for (int i = 0; i < 6; i++) {
            answers.add((long) x.measure(0, 999 - i));
        }
    }

    private static void readPossible(FlotationCircuit x, List<Long> answers) {
        for (int cell = 0; cell < x.cellCount(); cell++) {
            add(answers, x.possibleRecoveries(cell, 0), x.possibleRecoveries(cell, 1));
        }
    }

    private static void readHistory(FlotationCircuit x, List<Long> answers) {
        for (long left = 14; left > 0; ) {
            left = orThrown(() -> x.undo());
            answers.add(left);
            readState(x, answers);
        }
        answers.add(orThrown(() -> x.undo()));
    }

    private static void readSlots(FlotationCircuit x, List<Long> answers) {
        for (int slot = 0; slot < 2; slot++) {
            int asked = slot;
            answers.add(orThrown(() -> x.restore(asked)));
            readState(x, answers);
        }
    }

    private static void readText(FlotationCircuit x, List<Long> answers) {
        answers.add((long) x.errorPosition());
        answers.add(orThrown(() -> x.load()));
        readState(x, answers);
        answers.add((long) x.clearText());
    }

    private static long orThrown(Check.Call call) {
        try {
            return call.answer();
        } catch (IllegalStateException e) {
            return THROWN;
        }
    }
}
