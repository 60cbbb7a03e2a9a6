/** Promises 2 to 5, and what 'Description' says of the text. */
final class TextBoundaries extends Boundary {
    /** What may stand where: k a cell, d a digit, t a destination; no sign may stand behind the end. */
    private static final String PLACES = "FkddddddCddddttCddddttCddddttCddddttCddddttCddddtt";

    private TextBoundaries() {
    }

    static void run() {
        appendTakesEachCode();
        appendRefusesCodes();
        appendReturnsTheLength();
        appendRefusesWhenFull();
        bufferHasSixtyPlaces();
        clearTextEmpties();
        clearTextReturnsTheLength();
        errorPositionOrNone();
        eachSignAtEachPlace();
        headOfTheText();
        cellOfTheText();
        noSeparators();
        readFromLeftToRight();
        endsTooSoon();
        afterTheSixthCell();
        loadReplaces();
        loadForgets();
        loadKeeps();
        loadReturnsTheCells();
        loadRefuses();
    }

    private static FlotationCircuit with(String text) {
        FlotationCircuit x = new FlotationCircuit();
        write(x, text);
        return x;
    }

    private static void position(String text, int want) {
        CHECK.due("errorPosition() of '" + text + "'", with(text).errorPosition(), want);
    }

    private static void fill(FlotationCircuit x, int length) {
        x.clearText();
        for (int i = 0; i < length; i++) {
            x.append('9');
        }
    }

    private static void appendTakesEachCode() {
        promise(2, "Appends a character to the text buffer.", "`c`: character code, 0 to 255");
        for (int c = 0; c <= 255; c++) {
            FlotationCircuit x = new FlotationCircuit();
            CHECK.due("append(" + c + ")", x.append(c), 1);
            CHECK.due("errorPosition() with the code " + c, x.errorPosition(), c == 'F' ? 1 : 0);
        }
        FlotationCircuit x = new FlotationCircuit();
        CHECK.due("append(0)", x.append(0), 1);
        CHECK.due("append(255)", x.append(255), 2);
        CHECK.dueThrow("append(-1)", ARGUMENT, () -> x.append(-1));
        CHECK.dueThrow("append(256)", ARGUMENT, () -> x.append(256));
        CHECK.due("append(0) then", x.append(0), 3);
    }

    private static void appendRefusesCodes() {
        promise(2, "Throws `IllegalArgumentException` if c is out of range");
        for (int c : new int[] {-1, -2, 256, 257, 256 + 'F', -186, 65536 + 'F', NONE, MIN, MAX}) {
            refusedInAllScenes("append(" + c + ")", ARGUMENT, x -> x.append(c));
        }
    }

    private static void appendReturnsTheLength() {
        promise(2, "Returns the new length of the text.");
        FlotationCircuit x = new FlotationCircuit();
        for (int length = 1; length <= 60; length++) {
            CHECK.due("append", x.append(length), length);
        }
        x.clearText();
        CHECK.due("append to the emptied text", x.append('F'), 1);
    }

    private static void appendRefusesWhenFull() {
        promise(2, "Throws `IllegalStateException` if the text already has 60 characters");
        FlotationCircuit x = new FlotationCircuit();
        fill(x, 59);
        CHECK.due("append to 59 characters", x.append('9'), 60);
        CHECK.dueThrow("append to 60 characters", STATE, () -> x.append('9'));
        CHECK.dueThrow("append to 60 characters again", STATE, () -> x.append(0));
        for (int c : new int[] {0, 'F', 'C', '9', 255}) {
            refused("append(" + c + ") to 60 characters", STATE, Boundary::full, y -> y.append(c));
        }
        for (int c : new int[] {-1, 256}) {
            refused("append(" + c + ") to 60 characters", ARGUMENT, Boundary::full, y -> y.append(c));
        }
        CHECK.due("the length", x.clearText(), 60);
        CHECK.due("append after clearText", x.append('F'), 1);
    }

    private static void bufferHasSixtyPlaces() {
        description("The object has a text buffer of at most 60 characters.", 2, 3);
        FlotationCircuit x = new FlotationCircuit();
        for (int round = 0; round < 3; round++) {
            fill(x, 60);
            CHECK.dueThrow("the 61st character", STATE, () -> x.append('F'));
            CHECK.due("the length", x.clearText(), 60);
        }
    }

    private static void clearTextEmpties() {
        promise(3, "Empties the text buffer.");
        FlotationCircuit x = with(SIX_CELLS);
        CHECK.due("errorPosition() before", x.errorPosition(), NONE);
        x.clearText();
        CHECK.due("errorPosition() then", x.errorPosition(), 0);
        CHECK.dueThrow("load() then", STATE, () -> x.load());
        write(x, "F0100900");
        CHECK.due("nothing is left behind a shorter text", x.load(), 0);
        x.clearText();
        CHECK.due("clearText() twice", x.clearText(), 0);
        FlotationCircuit state = lively();
        state.clearText();
        same("the state stays", state, lively());
    }

    private static void clearTextReturnsTheLength() {
        promise(3, "Returns the previous length of the text.");
        FlotationCircuit x = new FlotationCircuit();
        CHECK.due("clearText() of the empty text", x.clearText(), 0);
        for (int length : new int[] {1, 2, 8, 50, 59, 60}) {
            fill(x, length);
            CHECK.due("clearText()", x.clearText(), length);
            CHECK.due("clearText() again", x.clearText(), 0);
        }
    }

    private static void errorPositionOrNone() {
        promise(4, "Checks the text.", "Returns the error position of the text; NONE if it is a complete circuit text.");
        position("", 0);
        for (int cells = 0; cells <= 6; cells++) {
            position(SIX_CELLS.substring(0, 8 + 7 * cells), NONE);
        }
        position("F0100900X", 8);
        CHECK.due("NONE", FlotationCircuit.NONE, -9);
        changesNothingInAllScenes("errorPosition()", x -> x.errorPosition());
    }

    private static void eachSignAtEachPlace() {
        description("The error position is the index of the first character that these rules do not allow at its place; if the"
                + " text ends too soon, it is the length of the text.", 4);
        for (int at = 0; at <= PLACES.length(); at++) {
            for (int c = 0; c <= 255; c++) {
                FlotationCircuit x = with(SIX_CELLS.substring(0, at));
                x.append(c);
                CHECK.due("the code " + c + " at " + at, x.errorPosition(), isAllowed(at, c) ? atEnd(at + 1) : at);
            }
        }
    }

    private static boolean isAllowed(int at, int c) {
        if (at >= PLACES.length()) {
            return false;
        }
        char place = PLACES.charAt(at);
        String signs = place == 'k' ? "012345" : place == 'd' ? "0123456789" : place == 't' ? "01234589" : "" + place;
        return signs.indexOf(c) >= 0;
    }

    private static int atEnd(int length) {
        return length == 8 || length == 15 || length == 22 || length == 29 || length == 36 || length == 43 || length == 50
                ? NONE : length;
    }

    private static void headOfTheText() {
        description("A circuit text is the letter F, the feed cell (one digit, 0 to 5), the feed amounts of metal and gangue"
                + " (three digits each), and then 0 to 6 cells.", 4, 5);
        position("E0000000", 0);
        position("G0000000", 0);
        position("f0000000", 0);
        position("F/000000", 1);
        position("F6000000", 1);
        for (int place = 2; place < 8; place++) {
            String before = "F0000000".substring(0, place);
            position(before + "/", place);
            position(before + ":", place);
            position(before + "-", place);
        }
        FlotationCircuit least = with("F0000000");
        CHECK.due("load()", least.load(), 0);
        CHECK.due("the feed cell 0", least.feedCell(), 0);
        CHECK.due("the least metal", least.feedAmount(0), 0);
        CHECK.due("the least gangue", least.feedAmount(1), 0);
        FlotationCircuit greatest = with("F5999998" + SIX_CELLS.substring(8));
        CHECK.due("load()", greatest.load(), 6);
        CHECK.due("the feed cell 5", greatest.feedCell(), 5);
        CHECK.due("the greatest metal", greatest.feedAmount(0), 999);
        CHECK.due("the gangue", greatest.feedAmount(1), 998);
    }

    private static void cellOfTheText() {
        description("A cell is the letter C, its recoveries for metal and for gangue (two digits each, 00 to 99), and the"
                + " destinations of its concentrate and its tailings (one digit each: 0 to 5, 8 or 9).", 4, 5);
        String head = "F0100900";
        position(head + "B", 8);
        position(head + "D", 8);
        position(head + "c", 8);
        for (int to : new int[] {'/', '6', '7', ':'}) {
            position(head + "C0000" + (char) to, 13);
            position(head + "C00008" + (char) to, 14);
        }
        for (int to : new int[] {0, 1, 2, 3, 4, 5, 8, 9}) {
            FlotationCircuit x = with(head + "C0099" + to + (to == 8 ? 9 : 8) + "C99005" + to);
            CHECK.due("load()", x.load(), 2);
            CHECK.due("the least metal recovery", x.recovery(0, 0), 0);
            CHECK.due("the greatest gangue recovery", x.recovery(0, 1), 99);
            CHECK.due("the greatest metal recovery", x.recovery(1, 0), 99);
            CHECK.due("the least gangue recovery", x.recovery(1, 1), 0);
            CHECK.due("the concentrate's destination", x.destination(0, 0), to);
            CHECK.due("the tailings' destination", x.destination(1, 1), to);
            CHECK.due("a cell that does not exist", x.destination(1, 0), 5);
        }
        position(head + "C1000089", 15);
    }

    private static void noSeparators() {
        description("There are no separators.", 4);
        for (int separator : new int[] {' ', ',', ';', '\n', '\t', 0}) {
            for (int at : new int[] {1, 2, 5, 8, 9, 11, 13, 14, 15, 22, 50}) {
                String text = SIX_CELLS.substring(0, at) + (char) separator + SIX_CELLS.substring(at);
                position(text, at);
            }
        }
    }

    private static void readFromLeftToRight() {
        description("The text is read from left to right.", 4);
        position("XX", 0);
        position("F6X", 1);
        position("F01X0X0X", 3);
        position("F010090XC802086", 7);
        position("F0100900C802069X", 13);
        position("0090010F", 0);
    }

    private static void endsTooSoon() {
        promise(4, "Returns the error position of the text; NONE if it is a complete circuit text.");
        for (int length = 0; length <= SIX_CELLS.length(); length++) {
            position(SIX_CELLS.substring(0, length), atEnd(length));
        }
    }

    private static void afterTheSixthCell() {
        description("After the sixth cell no character is allowed.", 4, 5);
        position(SIX_CELLS, NONE);
        for (int c = 0; c <= 255; c++) {
            position(SIX_CELLS + (char) c, 50);
        }
        position(SIX_CELLS + "C010289", 50);
        position(SIX_CELLS + "C010289C01", 50);
        refused("load() of a seventh cell", STATE, () -> with(SIX_CELLS + "C010289"), x -> x.load());
        CHECK.due("load() of six cells", with(SIX_CELLS).load(), 6);
    }

    private static void loadReplaces() {
        promise(5, "Replaces the cells and the feed by those of the text; all contents and amounts are 0.");
        FlotationCircuit none = full();
        write(none, "F3001002");
        none.load();
        FlotationCircuit due = new FlotationCircuit();
        due.setFeed(3, 1, 2);
        same("six cells replaced by none", none, due);
        FlotationCircuit six = lively();
        write(six, "F0999000C009900C990055C010089C000110C505098C000099");
        six.load();
        same("three cells replaced by six", six, sixByHand());
        FlotationCircuit one = full();
        write(one, "F0100900C802089");
        one.load();
        same("six cells replaced by one", one, circuit(80, 20, 8, 9));
        for (int cell = 1; cell < 6; cell++) {
            one.addCell(0, 0, 8, 9);
            CHECK.due("no content in a cell added then", one.content(cell, 0) + one.content(cell, 1), 0);
        }
    }

    private static FlotationCircuit sixByHand() {
        FlotationCircuit x = circuit(0, 99, 0, 0, 99, 0, 5, 5, 1, 0, 8, 9, 0, 1, 1, 0, 50, 50, 9, 8, 0, 0, 9, 9);
        x.setFeed(0, 999, 0);
        return x;
    }

    private static void loadForgets() {
        promise(5, "Forgets all remembered states and empties both save slots.");
        FlotationCircuit x = lively();
        x.save(1);
        CHECK.due("load()", x.load(), 1);
        CHECK.dueThrow("undo() then", STATE, () -> x.undo());
        CHECK.dueThrow("restore(0) then", STATE, () -> x.restore(0));
        CHECK.dueThrow("restore(1) then", STATE, () -> x.restore(1));
        x.setFeed(0, 1, 1);
        CHECK.due("undo() of an action behind load()", x.undo(), 0);
        CHECK.due("the loaded feed cell", x.feedCell(), 3);
        CHECK.dueThrow("undo() once more", STATE, () -> x.undo());
        x.save(1);
        CHECK.dueThrow("restore(0), still empty", STATE, () -> x.restore(0));
        CHECK.due("restore(1), filled again", x.restore(1), 1);
        for (int i = 0; i < 16; i++) {
            x.step(1);
        }
        CHECK.due("14 states are remembered again", x.undo(), 13);
        x.load();
        CHECK.dueThrow("and forgotten again", STATE, () -> x.undo());
    }

    private static void loadKeeps() {
        promise(5, "Keeps the text and the measurements.");
        FlotationCircuit x = lively();
        CHECK.due("load()", x.load(), 1);
        CHECK.due("errorPosition()", x.errorPosition(), NONE);
        CHECK.due("load() again", x.load(), 1);
        CHECK.due("a cell behind the text", x.append('C'), 16);
        CHECK.due("the fourth measurement", x.measure(0, 0), 4);
        FlotationCircuit y = circuit(80, 20, 8, 9);
        y.measure(0, 300);
        write(y, "F0100900C505089");
        y.load();
        CHECK.due("the measurement counts for the loaded cell", y.possibleRecoveries(0, 0), 1);
        CHECK.due("the text's length", y.clearText(), 15);
    }

    private static void loadReturnsTheCells() {
        promise(5, "Returns the number of cells.");
        for (int cells = 0; cells <= 6; cells++) {
            FlotationCircuit x = with(SIX_CELLS.substring(0, 8 + 7 * cells));
            CHECK.due("load()", x.load(), cells);
            CHECK.due("cellCount()", x.cellCount(), cells);
        }
    }

    private static void loadRefuses() {
        promise(5, "Throws `IllegalStateException` if the text is not a complete circuit text");
        for (int length = 0; length <= 60; length++) {
            String text = (SIX_CELLS + "C010289C01").substring(0, length);
            if (atEnd(length) != NONE) {
                refused("load() of '" + text + "'", STATE, () -> livelyWith(text), x -> x.load());
            }
        }
        for (String text : new String[] {"F6100900", "F01009X0", "F0100900C802086", "f0100900", "F0100900C80208 "}) {
            refused("load() of '" + text + "'", STATE, () -> livelyWith(text), x -> x.load());
        }
        refused("load() of the full text", STATE, Boundary::full, x -> x.load());
        refused("load() of half a text", STATE, Boundary::closed, x -> x.load());
    }

    private static FlotationCircuit livelyWith(String text) {
        FlotationCircuit x = lively();
        write(x, text);
        return x;
    }
}
