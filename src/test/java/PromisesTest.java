/** One part for each promise of the document: ordinary inputs, the edges that it names, wrong inputs. */
public final class PromisesTest {
    private static final Class<IndexOutOfBoundsException> INDEX = IndexOutOfBoundsException.class;
    private static final Class<IllegalArgumentException> ARGUMENT = IllegalArgumentException.class;
    private static final Class<IllegalStateException> STATE = IllegalStateException.class;
    private static final int NONE = -9;
    private static final int MIN = Integer.MIN_VALUE, MAX = Integer.MAX_VALUE;
    private static final String SIX_CELLS =
            "F1123456C010289C030401C050623C070845C091098C111299";

    private static final Check CHECK = new Check();

    public static void main(String[] args) {
        p1NewObject();
        p2Append();
        p3ClearText();
        p4ErrorPosition();
        p5Load();
        p5LoadForgetsAndKeeps();
        p6CellCount();
        p7Recovery();
        p8Destination();
        p9FeedCell();
        p10FeedAmount();
        p11AddCell();
        p12RemoveLastCell();
        p13SetRecovery();
        p14SetDestination();
        p15SetFeed();
        p16Step();
        p16StepIsExact();
        p17Drain();
        p18Undo();
        p18UndoOfEachAction();
        p18ThrowingCallsAreNoActions();
        p19Content();
        p20Amount();
        p21HasSteadyState();
        p22And23Flows();
        p22And23FlowsThrow();
        p24TotalRecovery();
        p25Grade();
        p26IsInLoop();
        p27LoopCount();
        p28BestImprovement();
        p29BestShutdown();
        p30RecoveryFor();
        p31Measure();
        p32PossibleRecoveries();
        p32MeasurementsStay();
        p33Disturb();
        p34Save();
        p35Restore();
        CHECK.end();
    }

    private static FlotationCircuit circuit(int... cells) {
        FlotationCircuit x = new FlotationCircuit();
        for (int i = 0; i + 3 < cells.length; i += 4) {
            x.addCell(cells[i], cells[i + 1], cells[i + 2], cells[i + 3]);
        }
        return x;
    }

    private static void write(FlotationCircuit x, String text) {
        x.clearText();
        for (int i = 0; i < text.length(); i++) {
            x.append(text.charAt(i));
        }
    }

    private static void p1NewObject() {
        CHECK.part("promise 1");
        FlotationCircuit x = new FlotationCircuit();
        CHECK.due("cellCount", x.cellCount(), 0);
        CHECK.due("feedCell", x.feedCell(), 0);
        CHECK.due("feedAmount(0)", x.feedAmount(0), 100);
        CHECK.due("feedAmount(1)", x.feedAmount(1), 900);
        for (int product = 8; product <= 9; product++) {
            CHECK.due("amount of metal", x.amount(product, 0), 0);
            CHECK.due("amount of gangue", x.amount(product, 1), 0);
        }
        CHECK.due("hasSteadyState", x.hasSteadyState(), true);
        CHECK.due("totalRecovery", x.totalRecovery(), 0);
        CHECK.due("loopCount", x.loopCount(), 0);
        CHECK.due("clearText", x.clearText(), 0);
        CHECK.dueThrow("undo", STATE, () -> x.undo());
        CHECK.dueThrow("restore(0)", STATE, () -> x.restore(0));
        CHECK.dueThrow("restore(1)", STATE, () -> x.restore(1));
    }

    private static void p2Append() {
        CHECK.part("promise 2");
        FlotationCircuit x = new FlotationCircuit();
        CHECK.due("append(0)", x.append(0), 1);
        CHECK.due("append(255)", x.append(255), 2);
        for (int c : new int[] {-1, 256, MIN, MAX}) {
            CHECK.dueThrow("append(" + c + ")", ARGUMENT, () -> x.append(c));
        }
        for (int length = 3; length <= 60; length++) {
            CHECK.due("append(65)", x.append(65), length);
        }
        CHECK.dueThrow("append(65) when full", STATE, () -> x.append(65));
        CHECK.dueThrow("append(256) when full", ARGUMENT, () -> x.append(256));
        CHECK.dueThrow("append(-1) when full", ARGUMENT, () -> x.append(-1));
        CHECK.due("clearText after throws", x.clearText(), 60);
    }

    private static void p3ClearText() {
        CHECK.part("promise 3");
        FlotationCircuit x = new FlotationCircuit();
        write(x, "F0100900");
        CHECK.due("clearText", x.clearText(), 8);
        CHECK.due("clearText again", x.clearText(), 0);
        CHECK.due("errorPosition", x.errorPosition(), 0);
        CHECK.due("append then", x.append('F'), 1);
        CHECK.due("errorPosition then", x.errorPosition(), 1);
    }

    private static void p4ErrorPosition() {
        CHECK.part("promise 4");
        position("", 0);
        position("F", 1);
        position("f", 0);
        position("C", 0);
        position("F5", 2);
        position("F6", 1);
        position("F/", 1);
        position("F:", 1);
        position("F9", 1);
        position("F0/", 2);
        position("F0:", 2);
        position("F01X", 3);
        position("F010090", 7);
        position("F010090C", 7);
        position("F0100900", NONE);
        position("F0000000", NONE);
        position("F5999999", NONE);
        position("F01009000", 8);
        position("F0100900F", 8);
        position("F0100900c", 8);
        position("F0100900 ", 8);
        position("F0100900C", 9);
        position("F0100900C8", 10);
        position("F0100900C8020", 13);
        position("F0100900C8020C", 13);
        position("F0100900C80X", 11);
        position("F0100900C80206", 13);
        position("F0100900C80207", 13);
        position("F0100900C80205", 14);
        position("F0100900C80208", 14);
        position("F0100900C802086", 14);
        position("F0100900C802087", 14);
        position("F0100900C802089", NONE);
        position("F0100900C000000", NONE);
        position("F0100900C999955", NONE);
        position("F0100900C999998", NONE);
        position("F0100900C802089X", 15);
        position("F0100900C802089C", 16);
        position("F0100900C802089C000000", NONE);
        position("F0100900C80208" + (char) 0, 14);
        position("F0100900C80208" + (char) 255, 14);
        position("F0100900C80208" + (char) ('9' + 128), 14);
        position(SIX_CELLS, NONE);
        position(SIX_CELLS + "C", 50);
        position(SIX_CELLS + "C010289", 50);
        position(SIX_CELLS + "0123456789", 50);
        position(SIX_CELLS.substring(0, 49), 49);
        position(SIX_CELLS.substring(0, 49) + "7", 49);
        position("X" + SIX_CELLS, 0);
    }

    private static void position(String text, int want) {
        FlotationCircuit x = new FlotationCircuit();
        write(x, text);
        CHECK.due("errorPosition of " + text, x.errorPosition(), want);
        if (want == NONE) {
            CHECK.due("load of " + text, x.load(), (text.length() - 8) / 7);
        } else {
            CHECK.dueThrow("load of " + text, STATE, () -> x.load());
        }
        CHECK.due("the text stays: " + text, x.clearText(), text.length());
    }

    private static void p5Load() {
        CHECK.part("promise 5");
        FlotationCircuit x = circuit(1, 2, 3, 4);
        x.step(5);
        write(x, SIX_CELLS);
        CHECK.due("load", x.load(), 6);
        CHECK.due("cellCount", x.cellCount(), 6);
        CHECK.due("feedCell", x.feedCell(), 1);
        CHECK.due("feedAmount(0)", x.feedAmount(0), 123);
        CHECK.due("feedAmount(1)", x.feedAmount(1), 456);
        int[][] to = {{8, 9}, {0, 1}, {2, 3}, {4, 5}, {9, 8}, {9, 9}};
        for (int cell = 0; cell < 6; cell++) {
            for (int half = 0; half < 2; half++) {
                CHECK.due("recovery of " + cell, x.recovery(cell, half), 2 * cell + half + 1);
                CHECK.due("destination of " + cell, x.destination(cell, half), to[cell][half]);
                CHECK.due("content of " + cell, x.content(cell, half), 0);
            }
        }
        for (int product = 8; product <= 9; product++) {
            CHECK.due("amount of metal", x.amount(product, 0), 0);
            CHECK.due("amount of gangue", x.amount(product, 1), 0);
        }
        write(x, "F0000007");
        CHECK.due("load without cells", x.load(), 0);
        CHECK.due("cellCount then", x.cellCount(), 0);
        CHECK.due("feedAmount(1) then", x.feedAmount(1), 7);
    }

    private static void p5LoadForgetsAndKeeps() {
        CHECK.part("promise 5, memory");
        FlotationCircuit x = circuit(80, 20, 8, 9);
        x.step(3);
        x.save(0);
        x.save(1);
        x.measure(0, 300);
        write(x, "F0100900C5050");
        CHECK.dueThrow("load of half a text", STATE, () -> x.load());
        CHECK.due("content after it", x.content(0, 0), 100);
        CHECK.due("undo after it", x.undo(), 1);
        CHECK.due("restore(1) after it", x.restore(1), 1);
        x.append('8');
        x.append('9');
        x.save(0);
        x.save(1);
        x.step(1);
        x.step(1);
        CHECK.due("load", x.load(), 1);
        CHECK.dueThrow("undo after load", STATE, () -> x.undo());
        CHECK.dueThrow("restore(0) after load", STATE, () -> x.restore(0));
        CHECK.dueThrow("restore(1) after load", STATE, () -> x.restore(1));
        CHECK.due("the measurement is kept", x.possibleRecoveries(0, 0), 1);
        CHECK.due("measure after load", x.measure(0, 300), 2);
        CHECK.due("the text is kept", x.load(), 1);
        x.setRecovery(0, 0, 7);
        CHECK.due("load is no action", x.undo(), 0);
        CHECK.due("the text's length", x.clearText(), 15);
    }

    private static void p6CellCount() {
        CHECK.part("promise 6");
        FlotationCircuit x = new FlotationCircuit();
        for (int cells = 1; cells <= 6; cells++) {
            x.addCell(1, 1, 8, 9);
            CHECK.due("cellCount", x.cellCount(), cells);
        }
        x.removeLastCell();
        CHECK.due("cellCount", x.cellCount(), 5);
        x.undo();
        CHECK.due("cellCount", x.cellCount(), 6);
    }

    private static void p7Recovery() {
        CHECK.part("promise 7");
        FlotationCircuit x = circuit(0, 100, 8, 9, 31, 42, 8, 9);
        CHECK.due("recovery(0, 0)", x.recovery(0, 0), 0);
        CHECK.due("recovery(0, 1)", x.recovery(0, 1), 100);
        CHECK.due("recovery(1, 0)", x.recovery(1, 0), 31);
        CHECK.due("recovery(1, 1)", x.recovery(1, 1), 42);
        for (int[] wrong : new int[][] {{-1, 0}, {2, 0}, {8, 0}, {MIN, 0}, {MAX, 0}, {0, -1}, {0, 2}, {1, MAX}}) {
            CHECK.dueThrow("recovery" + wrong[0] + "," + wrong[1], INDEX, () -> x.recovery(wrong[0], wrong[1]));
        }
    }

    private static void p8Destination() {
        CHECK.part("promise 8");
        FlotationCircuit x = circuit(50, 50, 5, 0, 50, 50, 8, 9);
        CHECK.due("a cell that does not exist stays as set", x.destination(0, 0), 5);
        CHECK.due("destination(0, 1)", x.destination(0, 1), 0);
        CHECK.due("destination(1, 0)", x.destination(1, 0), 8);
        CHECK.due("destination(1, 1)", x.destination(1, 1), 9);
        for (int[] wrong : new int[][] {{-1, 0}, {2, 0}, {9, 0}, {MIN, 0}, {MAX, 0}, {0, -1}, {0, 2}, {1, MIN}}) {
            CHECK.dueThrow("destination" + wrong[0] + "," + wrong[1], INDEX, () -> x.destination(wrong[0], wrong[1]));
        }
    }

    private static void p9FeedCell() {
        CHECK.part("promise 9");
        FlotationCircuit x = new FlotationCircuit();
        CHECK.due("feedCell", x.feedCell(), 0);
        x.setFeed(5, 1, 2);
        CHECK.due("feedCell that does not exist", x.feedCell(), 5);
        x.undo();
        CHECK.due("feedCell after undo", x.feedCell(), 0);
    }

    private static void p10FeedAmount() {
        CHECK.part("promise 10");
        FlotationCircuit x = new FlotationCircuit();
        x.setFeed(0, 0, 999);
        CHECK.due("feedAmount(0)", x.feedAmount(0), 0);
        CHECK.due("feedAmount(1)", x.feedAmount(1), 999);
        for (int wrong : new int[] {-1, 2, MIN, MAX}) {
            CHECK.dueThrow("feedAmount(" + wrong + ")", INDEX, () -> x.feedAmount(wrong));
        }
    }

    private static void p11AddCell() {
        CHECK.part("promise 11");
        FlotationCircuit x = new FlotationCircuit();
        int[][] wrong = {
            {-1, 0, 8, 9}, {101, 0, 8, 9}, {0, -1, 8, 9}, {0, 101, 8, 9}, {0, 0, -1, 9}, {0, 0, 6, 9}, {0, 0, 7, 9},
            {0, 0, 10, 9}, {0, 0, 8, -1}, {0, 0, 8, 6}, {0, 0, 8, 7}, {0, 0, 8, 10}, {MIN, 0, 8, 9}, {0, MAX, 8, 9},
            {0, 0, MIN, 9}, {0, 0, 8, MAX}, {0, 0, NONE, 9},
        };
        for (int[] w : wrong) {
            CHECK.dueThrow("addCell " + w[0] + " " + w[1] + " " + w[2] + " " + w[3], ARGUMENT,
                    () -> x.addCell(w[0], w[1], w[2], w[3]));
        }
        CHECK.due("cellCount after throws", x.cellCount(), 0);
        for (int cell = 0; cell < 6; cell++) {
            CHECK.due("addCell", x.addCell(cell == 0 ? 0 : 100, cell == 1 ? 0 : 100, cell, 8 + cell % 2), cell);
        }
        CHECK.dueThrow("addCell, the seventh", STATE, () -> x.addCell(0, 0, 8, 9));
        CHECK.dueThrow("addCell, the seventh, out of range", ARGUMENT, () -> x.addCell(101, 0, 8, 9));
        CHECK.dueThrow("addCell, the seventh, no destination", ARGUMENT, () -> x.addCell(0, 0, 8, 7));
        CHECK.due("cellCount then", x.cellCount(), 6);
        CHECK.due("recovery(1, 1)", x.recovery(1, 1), 0);
        CHECK.due("destination(5, 0)", x.destination(5, 0), 5);
        CHECK.due("six actions", x.undo(), 5);

        FlotationCircuit y = circuit(0, 0, 8, 0);
        y.step(3);
        y.removeLastCell();
        y.addCell(0, 0, 8, 0);
        CHECK.due("a new cell is without contents", y.content(0, 0) + y.content(0, 1), 0);
    }

    private static void p12RemoveLastCell() {
        CHECK.part("promise 12");
        FlotationCircuit x = circuit(100, 100, 1, 9, 100, 0, 8, 9);
        x.step(2);
        CHECK.due("content before", x.content(1, 1), 900);
        CHECK.due("removeLastCell", x.removeLastCell(), 1);
        CHECK.dueThrow("recovery of it", INDEX, () -> x.recovery(1, 0));
        CHECK.due("its stream is kept as set", x.destination(0, 0), 1);
        CHECK.due("what went to it goes to the tailings", x.flowNumerator(9, 0), 100);
        CHECK.due("its contents are lost", x.drain(), 1000);
        x.addCell(0, 0, 8, 9);
        CHECK.due("it counts again as soon as it exists", x.flowNumerator(1, 0), 100);
        x.drain();
        x.step(2);
        CHECK.due("content of both cells", x.content(0, 0) + x.content(1, 0), 200);
        CHECK.due("removeLastCell", x.removeLastCell(), 1);
        x.step(1);
        CHECK.due("the lost metal comes out nowhere", x.amount(8, 0) + x.amount(9, 0), 100);
        CHECK.due("the lost gangue comes out nowhere", x.amount(8, 1) + x.amount(9, 1), 900);
        CHECK.due("removeLastCell", x.removeLastCell(), 0);
        CHECK.dueThrow("removeLastCell without cells", STATE, () -> x.removeLastCell());
        CHECK.due("cellCount", x.cellCount(), 0);
    }

    private static void p13SetRecovery() {
        CHECK.part("promise 13");
        FlotationCircuit x = circuit(10, 20, 8, 9, 30, 40, 8, 9);
        CHECK.due("setRecovery(1, 0, 100)", x.setRecovery(1, 0, 100), 30);
        CHECK.due("setRecovery(1, 0, 0)", x.setRecovery(1, 0, 0), 100);
        CHECK.due("setRecovery(0, 1, 20)", x.setRecovery(0, 1, 20), 20);
        CHECK.dueThrow("r -1", ARGUMENT, () -> x.setRecovery(0, 0, -1));
        CHECK.dueThrow("r 101", ARGUMENT, () -> x.setRecovery(0, 0, 101));
        CHECK.dueThrow("cell and r", INDEX, () -> x.setRecovery(2, 0, 101));
        CHECK.dueThrow("component and r", INDEX, () -> x.setRecovery(0, 2, 101));
        CHECK.dueThrow("cell -1", INDEX, () -> x.setRecovery(-1, 0, 5));
        CHECK.dueThrow("component -1", INDEX, () -> x.setRecovery(0, -1, 5));
        CHECK.due("recovery(0, 0)", x.recovery(0, 0), 10);
        CHECK.due("recovery(0, 1)", x.recovery(0, 1), 20);
        CHECK.due("recovery(1, 0)", x.recovery(1, 0), 0);
        CHECK.due("recovery(1, 1)", x.recovery(1, 1), 40);
        CHECK.due("five actions", x.undo(), 4);
    }

    private static void p14SetDestination() {
        CHECK.part("promise 14");
        FlotationCircuit x = circuit(10, 20, 8, 9, 30, 40, 5, 9);
        CHECK.due("setDestination(1, 0, 0)", x.setDestination(1, 0, 0), 5);
        CHECK.due("setDestination(1, 1, 5)", x.setDestination(1, 1, 5), 9);
        CHECK.due("setDestination(1, 1, 8)", x.setDestination(1, 1, 8), 5);
        CHECK.due("setDestination(0, 0, 9)", x.setDestination(0, 0, 9), 8);
        for (int to : new int[] {-1, 6, 7, 10, NONE, MIN, MAX}) {
            CHECK.dueThrow("to " + to, ARGUMENT, () -> x.setDestination(0, 0, to));
            CHECK.dueThrow("cell and to " + to, INDEX, () -> x.setDestination(2, 0, to));
            CHECK.dueThrow("stream and to " + to, INDEX, () -> x.setDestination(0, 2, to));
        }
        CHECK.dueThrow("cell -1", INDEX, () -> x.setDestination(-1, 0, 8));
        CHECK.dueThrow("stream -1", INDEX, () -> x.setDestination(0, -1, 8));
        CHECK.due("destination(0, 0)", x.destination(0, 0), 9);
        CHECK.due("destination(0, 1)", x.destination(0, 1), 9);
        CHECK.due("destination(1, 0)", x.destination(1, 0), 0);
        CHECK.due("destination(1, 1)", x.destination(1, 1), 8);
        CHECK.due("six actions", x.undo(), 5);
    }

    private static void p15SetFeed() {
        CHECK.part("promise 15");
        FlotationCircuit x = new FlotationCircuit();
        CHECK.due("setFeed(5, 0, 999)", x.setFeed(5, 0, 999), 0);
        CHECK.due("setFeed(0, 999, 0)", x.setFeed(0, 999, 0), 5);
        int[][] wrong = {{-1, 0, 0}, {6, 0, 0}, {8, 0, 0}, {0, -1, 0}, {0, 1000, 0}, {0, 0, -1}, {0, 0, 1000}, {MIN, 0, 0}, {0, MAX, 0}, {0, 0, MIN}};
        for (int[] w : wrong) {
            CHECK.dueThrow("setFeed " + w[0] + " " + w[1] + " " + w[2], ARGUMENT, () -> x.setFeed(w[0], w[1], w[2]));
        }
        CHECK.due("feedCell", x.feedCell(), 0);
        CHECK.due("feedAmount(0)", x.feedAmount(0), 999);
        CHECK.due("feedAmount(1)", x.feedAmount(1), 0);
        CHECK.due("two actions", x.undo(), 1);
    }

    private static void p16Step() {
        CHECK.part("promise 16");
        FlotationCircuit x = circuit(55, 15, 1, 2, 91, 33, 8, 0);
        CHECK.due("step(1)", x.step(1), 0);
        CHECK.due("the feed arrives", x.content(0, 1), 900);
        CHECK.due("step(1)", x.step(1), 0);
        CHECK.due("content(0, 0)", x.content(0, 0), 100);
        CHECK.due("content(1, 0)", x.content(1, 0), 55);
        CHECK.due("content(1, 1)", x.content(1, 1), 135);
        CHECK.due("a missing cell: to the tailings", x.amount(9, 0), 45);
        CHECK.due("amount(9, 1)", x.amount(9, 1), 765);
        CHECK.due("step(1) with floor(55 * 91 / 100)", x.step(1), 50);
        CHECK.due("the rest returns", x.content(0, 0), 105);
        CHECK.due("floor(135 * 33 / 100)", x.amount(8, 1), 44);
        CHECK.due("the rest of the gangue returns", x.content(0, 1), 991);
        CHECK.dueThrow("step(0)", ARGUMENT, () -> x.step(0));
        CHECK.dueThrow("step(-1)", ARGUMENT, () -> x.step(-1));
        CHECK.dueThrow("step(101)", ARGUMENT, () -> x.step(101));
        CHECK.dueThrow("step(MIN)", ARGUMENT, () -> x.step(MIN));
        CHECK.dueThrow("step(MAX)", ARGUMENT, () -> x.step(MAX));
        CHECK.due("amount after throws", x.amount(8, 0), 50);
        CHECK.due("a step is one action, however many it makes", x.step(100) > 50 ? x.undo() : -1, 5);

        FlotationCircuit y = circuit(50, 50, 0, 0);
        y.setFeed(1, 3, 4);
        CHECK.due("step(100) without a feed cell", y.step(100), 0);
        CHECK.due("the feed goes to the tailings", y.amount(9, 0), 300);
        CHECK.due("the gangue too", y.amount(9, 1), 400);
        CHECK.due("nothing reaches the cell", y.content(0, 0), 0);
    }

    private static void p16StepIsExact() {
        CHECK.part("promise 16, large contents");
        FlotationCircuit x = circuit(0, 0, 8, 0);
        x.setFeed(0, 999, 999);
        for (int i = 0; i < 500; i++) {
            x.step(100);
        }
        CHECK.due("content", x.content(0, 0), 49950000);
        x.setRecovery(0, 0, 97);
        CHECK.due("floor(49950000 * 97 / 100)", x.step(1), 48451500);
        CHECK.due("drain", x.drain(), 49950000L - 48451500 + 999 + 49950000 + 999);
    }

    private static void p17Drain() {
        CHECK.part("promise 17");
        FlotationCircuit x = circuit(50, 10, 1, 9, 50, 10, 8, 9);
        CHECK.due("drain of nothing", x.drain(), 0);
        x.step(3);
        // Cell 0 holds 100 and 900, cell 1 holds 50 and 90.
        CHECK.due("drain", x.drain(), 1140);
        for (int half = 0; half < 2; half++) {
            CHECK.due("content(0)", x.content(0, half), 0);
            CHECK.due("content(1)", x.content(1, half), 0);
            CHECK.due("amount(8)", x.amount(8, half), 0);
            CHECK.due("amount(9)", x.amount(9, half), 0);
        }
        CHECK.due("the cells stay", x.recovery(1, 0), 50);
        CHECK.due("the feed stays", x.feedAmount(1), 900);
        CHECK.due("drain of nothing", x.drain(), 0);
        CHECK.due("each drain is an action", x.undo(), 5);
        CHECK.due("undo of the drain", x.undo(), 4);
        CHECK.due("content after undo", x.content(1, 1), 90);
        CHECK.due("amount after undo", x.amount(8, 0), 25);
    }

    private static void p18Undo() {
        CHECK.part("promise 18");
        FlotationCircuit x = circuit(50, 50, 8, 9);
        for (int r = 1; r <= 20; r++) {
            x.setRecovery(0, 0, r);
        }
        for (int left = 13; left >= 0; left--) {
            CHECK.due("undo", x.undo(), left);
            CHECK.due("recovery after undo", x.recovery(0, 0), left + 6);
        }
        CHECK.dueThrow("undo of the fifteenth", STATE, () -> x.undo());
        CHECK.due("recovery then", x.recovery(0, 0), 6);
        x.setRecovery(0, 0, 60);
        x.setRecovery(0, 0, 70);
        CHECK.due("undo", x.undo(), 1);
        CHECK.due("recovery", x.recovery(0, 0), 60);
        x.setRecovery(0, 0, 80);
        CHECK.due("undo is no action", x.undo(), 1);
        CHECK.due("recovery", x.recovery(0, 0), 60);
        CHECK.due("undo", x.undo(), 0);
        CHECK.due("recovery", x.recovery(0, 0), 6);
        CHECK.dueThrow("undo", STATE, () -> x.undo());

        FlotationCircuit y = new FlotationCircuit();
        for (int i = 1; i <= 14; i++) {
            y.setFeed(0, i, 0);
        }
        for (int left = 13; left >= 0; left--) {
            CHECK.due("undo of exactly 14", y.undo(), left);
        }
        CHECK.due("the first state", y.feedAmount(0), 100);
        CHECK.dueThrow("undo", STATE, () -> y.undo());
    }

    private static void p18UndoOfEachAction() {
        CHECK.part("promise 18, each action");
        FlotationCircuit x = circuit(50, 10, 1, 9, 60, 20, 8, 0);
        x.step(5);
        int metal = x.content(1, 0);
        int done = x.amount(8, 1);
        x.addCell(1, 2, 3, 4);
        x.removeLastCell();
        x.removeLastCell();
        x.setRecovery(0, 1, 99);
        x.setDestination(0, 1, 8);
        x.setFeed(3, 4, 5);
        x.step(7);
        x.drain();
        for (int left = 10; left >= 3; left--) {
            CHECK.due("undo", x.undo(), left);
        }
        CHECK.due("cellCount", x.cellCount(), 2);
        CHECK.due("recovery", x.recovery(0, 1), 10);
        CHECK.due("destination", x.destination(0, 1), 9);
        CHECK.due("feedCell", x.feedCell(), 0);
        CHECK.due("feedAmount", x.feedAmount(1), 900);
        CHECK.due("content of the cell that was removed", x.content(1, 0), metal);
        CHECK.due("its recovery", x.recovery(1, 1), 20);
        CHECK.due("amount", x.amount(8, 1), done);
    }

    private static void p18ThrowingCallsAreNoActions() {
        CHECK.part("promise 18, throws");
        FlotationCircuit x = circuit(50, 10, 1, 9);
        CHECK.dueThrow("addCell", ARGUMENT, () -> x.addCell(101, 0, 8, 9));
        CHECK.dueThrow("setRecovery", ARGUMENT, () -> x.setRecovery(0, 0, 101));
        CHECK.dueThrow("setDestination", ARGUMENT, () -> x.setDestination(0, 0, 7));
        CHECK.dueThrow("setFeed", ARGUMENT, () -> x.setFeed(6, 0, 0));
        CHECK.dueThrow("step", ARGUMENT, () -> x.step(0));
        x.append('F');
        x.measure(0, 5);
        x.save(0);
        x.disturb(1, 5);
        CHECK.due("undo", x.undo(), 0);
        CHECK.dueThrow("removeLastCell", STATE, () -> x.removeLastCell());
        CHECK.dueThrow("undo", STATE, () -> x.undo());
        CHECK.due("the text is not part of the state", x.clearText(), 1);
        CHECK.due("the measurements are not part of the state", x.measure(0, 5), 2);
        CHECK.due("the slots are not part of the state", x.restore(0), 1);
    }

    private static void p19Content() {
        CHECK.part("promise 19");
        FlotationCircuit x = circuit(30, 70, 1, 1, 0, 0, 8, 9);
        CHECK.due("content at first", x.content(0, 0), 0);
        x.step(2);
        CHECK.due("content(0, 0)", x.content(0, 0), 100);
        CHECK.due("content(0, 1)", x.content(0, 1), 900);
        CHECK.due("content(1, 0), by both streams", x.content(1, 0), 100);
        CHECK.due("content(1, 1), by both streams", x.content(1, 1), 900);
        FlotationCircuit full = circuit(1, 2, 8, 9, 1, 2, 8, 9, 1, 2, 8, 9, 1, 2, 8, 9, 1, 2, 8, 9, 0, 0, 5, 5);
        full.setFeed(5, 7, 11);
        full.step(3);
        CHECK.due("content of the sixth cell", full.content(5, 0), 21);
        CHECK.due("its gangue", full.content(5, 1), 33);
        full.setDestination(5, 1, 8);
        full.step(1);
        CHECK.due("its new metal", full.content(5, 0), 7);
        CHECK.due("its new gangue", full.content(5, 1), 11);
        CHECK.due("what it sent", full.amount(8, 0), 21);
        CHECK.due("added to what it sent before", full.step(1), 28);
        for (int[] wrong : new int[][] {{-1, 0}, {2, 0}, {8, 0}, {9, 1}, {MIN, 0}, {MAX, 0}, {0, -1}, {0, 2}, {1, MAX}}) {
            CHECK.dueThrow("content" + wrong[0] + "," + wrong[1], INDEX, () -> x.content(wrong[0], wrong[1]));
        }
    }

    private static void p20Amount() {
        CHECK.part("promise 20");
        FlotationCircuit x = circuit(30, 70, 8, 9);
        x.step(3);
        CHECK.due("amount(8, 0)", x.amount(8, 0), 60);
        CHECK.due("amount(8, 1)", x.amount(8, 1), 1260);
        CHECK.due("amount(9, 0)", x.amount(9, 0), 140);
        CHECK.due("amount(9, 1)", x.amount(9, 1), 540);
        for (int[] wrong : new int[][] {{0, 0}, {7, 0}, {10, 0}, {-1, 0}, {MIN, 0}, {MAX, 0}, {8, -1}, {8, 2}, {9, MIN}}) {
            CHECK.dueThrow("amount" + wrong[0] + "," + wrong[1], INDEX, () -> x.amount(wrong[0], wrong[1]));
        }
    }

    private static void p21HasSteadyState() {
        CHECK.part("promise 21");
        CHECK.due("no cells", circuit().hasSteadyState(), true);
        CHECK.due("to the products", circuit(0, 100, 8, 9).hasSteadyState(), true);
        CHECK.due("all to itself", circuit(50, 50, 0, 0).hasSteadyState(), false);
        CHECK.due("metal does not leave", circuit(0, 1, 8, 0).hasSteadyState(), false);
        CHECK.due("gangue does not leave", circuit(1, 0, 8, 0).hasSteadyState(), false);
        CHECK.due("both leave a little", circuit(1, 1, 8, 0).hasSteadyState(), true);
        CHECK.due("a missing cell is the tailings", circuit(50, 50, 5, 5).hasSteadyState(), true);
        CHECK.due("a closed pair", circuit(50, 50, 1, 1, 50, 50, 0, 0).hasSteadyState(), false);
        CHECK.due("a closed pair that gets nothing",
                circuit(50, 50, 8, 9, 50, 50, 2, 2, 50, 50, 1, 1).hasSteadyState(), false);
        CHECK.due("a pair with a way out", circuit(50, 50, 1, 1, 99, 99, 0, 9).hasSteadyState(), true);
        CHECK.due("a long way out", circuit(1, 1, 1, 0, 1, 1, 2, 0, 1, 1, 3, 0, 1, 1, 4, 0, 1, 1, 5, 0, 1, 1, 8, 0)
                .hasSteadyState(), true);
        FlotationCircuit x = circuit(50, 50, 1, 1);
        x.addCell(50, 50, 0, 0);
        CHECK.due("the other cell closes it", x.hasSteadyState(), false);
        x.removeLastCell();
        CHECK.due("without the other cell", x.hasSteadyState(), true);
    }

    private static void flow(FlotationCircuit x, int to, int component, long numerator, long denominator) {
        CHECK.due("flowNumerator(" + to + ", " + component + ")", x.flowNumerator(to, component), numerator);
        CHECK.due("flowDenominator(" + to + ", " + component + ")", x.flowDenominator(to, component), denominator);
    }

    private static void p22And23Flows() {
        CHECK.part("promises 22 and 23");
        FlotationCircuit x = circuit(50, 10, 1, 9, 50, 10, 8, 0);
        flow(x, 0, 0, 400, 3);
        flow(x, 1, 0, 200, 3);
        flow(x, 8, 0, 100, 3);
        flow(x, 9, 0, 200, 3);
        flow(x, 0, 1, 90000, 91);
        flow(x, 1, 1, 9000, 91);
        flow(x, 8, 1, 900, 91);
        flow(x, 9, 1, 81000, 91);
        x.setFeed(1, 0, 900);
        flow(x, 0, 0, 0, 1);
        flow(x, 9, 0, 0, 1);
        flow(x, 1, 1, 90000, 91);
        x.setFeed(5, 7, 900);
        flow(x, 0, 0, 0, 1);
        flow(x, 8, 0, 0, 1);
        flow(x, 9, 0, 7, 1);
        flow(x, 9, 1, 900, 1);

        FlotationCircuit y = circuit(99, 1, 0, 9);
        flow(y, 0, 0, 10000, 1);
        flow(y, 9, 0, 100, 1);
        flow(y, 0, 1, 10000, 11);

        FlotationCircuit z = circuit(33, 99, 1, 9, 33, 99, 2, 9, 33, 99, 3, 9, 33, 99, 4, 9, 33, 99, 5, 9, 33, 99, 8, 9);
        z.setFeed(0, 999, 999);
        flow(z, 8, 0, 999L * 33 * 33 * 33 * 33 * 33 * 33, 1000000000000L);
        flow(z, 8, 1, 999L * 99 * 99 * 99 * 99 * 99 * 99, 1000000000000L);
        flow(z, 9, 1, 999000000000000L - 999L * 99 * 99 * 99 * 99 * 99 * 99, 1000000000000L);
        flow(z, 5, 0, 999L * 33 * 33 * 33 * 33 * 33, 10000000000L);

        FlotationCircuit far = circuit(1, 99, 1, 0, 1, 99, 2, 0, 1, 99, 3, 0, 1, 99, 4, 0, 1, 99, 5, 0, 1, 99, 8, 0);
        far.setFeed(0, 999, 999);
        flow(far, 8, 0, 999, 1);
        flow(far, 0, 0, 999L * 1000000000000L, 1);
        flow(far, 9, 0, 0, 1);
    }

    private static void p22And23FlowsThrow() {
        CHECK.part("promises 22 and 23, throws");
        FlotationCircuit x = circuit(0, 50, 8, 0, 50, 50, 8, 9);
        CHECK.dueThrow("flowNumerator of the metal", STATE, () -> x.flowNumerator(0, 0));
        CHECK.dueThrow("flowDenominator of the metal", STATE, () -> x.flowDenominator(9, 0));
        flow(x, 0, 1, 1800, 1);
        flow(x, 1, 1, 0, 1);
        for (int[] wrong : new int[][] {{-1, 0}, {2, 0}, {5, 0}, {6, 0}, {7, 0}, {10, 0}, {MIN, 0}, {MAX, 0}, {0, -1}, {0, 2}, {8, MAX}}) {
            CHECK.dueThrow("flowNumerator" + wrong[0] + "," + wrong[1], INDEX, () -> x.flowNumerator(wrong[0], wrong[1]));
            CHECK.dueThrow("flowDenominator" + wrong[0] + "," + wrong[1], INDEX, () -> x.flowDenominator(wrong[0], wrong[1]));
        }
    }

    private static void p24TotalRecovery() {
        CHECK.part("promise 24");
        CHECK.due("a loop, rounded down", circuit(50, 10, 1, 9, 50, 10, 8, 0).totalRecovery(), 333);
        CHECK.due("two of three, rounded down", circuit(50, 10, 1, 8, 50, 10, 9, 0).totalRecovery(), 666);
        CHECK.due("all", circuit(100, 0, 8, 9).totalRecovery(), 1000);
        CHECK.due("all, by both streams", circuit(37, 0, 8, 8).totalRecovery(), 1000);
        CHECK.due("none", circuit(37, 0, 9, 9).totalRecovery(), 0);
        FlotationCircuit x = circuit(100, 0, 8, 9);
        x.setFeed(0, 0, 900);
        CHECK.due("no metal", x.totalRecovery(), 0);
        x.setFeed(0, 1, 0);
        CHECK.due("one unit of metal", x.totalRecovery(), 1000);
        x.setFeed(1, 100, 900);
        CHECK.due("no feed cell", x.totalRecovery(), 0);
        CHECK.dueThrow("metal does not leave", STATE, () -> circuit(0, 1, 8, 0).totalRecovery());
        CHECK.dueThrow("gangue does not leave", STATE, () -> circuit(1, 0, 8, 0).totalRecovery());
        CHECK.dueThrow("a cell that gets nothing", STATE, () -> circuit(100, 0, 8, 9, 50, 50, 1, 1).totalRecovery());
        FlotationCircuit far = circuit(1, 99, 1, 0, 1, 99, 2, 0, 1, 99, 3, 0, 1, 99, 4, 0, 1, 99, 5, 0, 1, 99, 8, 0);
        CHECK.due("all of it, in the end", far.totalRecovery(), 1000);
    }

    private static void p25Grade() {
        CHECK.part("promise 25");
        CHECK.due("80 of 260", circuit(80, 20, 8, 9).grade(), 307);
        CHECK.due("metal alone", circuit(1, 0, 8, 9).grade(), 1000);
        CHECK.due("gangue alone", circuit(0, 1, 8, 9).grade(), 0);
        CHECK.due("nothing", circuit(50, 50, 9, 9).grade(), 0);
        CHECK.dueThrow("metal does not leave", STATE, () -> circuit(0, 1, 8, 0).grade());
        CHECK.dueThrow("gangue does not leave", STATE, () -> circuit(1, 0, 8, 0).grade());
        FlotationCircuit x = circuit(1, 1, 1, 9, 1, 1, 2, 9, 1, 1, 8, 9);
        x.setFeed(0, 1, 1);
        CHECK.due("a millionth of each", x.grade(), 500);
        x.setRecovery(2, 1, 2);
        CHECK.due("one and two millionths", x.grade(), 333);
        x.setDestination(2, 0, 3);
        x.addCell(50, 50, 8, 9);
        CHECK.due("half a millionth is none, a whole one counts", x.grade(), 0);
        x.setRecovery(3, 1, 49);
        CHECK.due("both below a millionth", x.grade(), 0);
        x.setFeed(0, 3, 4);
        CHECK.due("floor(1.5) and floor(3.92) millionths", x.grade(), 250);
        x.setFeed(0, 2, 2);
        CHECK.due("floor(1) and floor(1.96) millionths", x.grade(), 500);
        x.setFeed(0, 2, 1);
        CHECK.due("a millionth and none", x.grade(), 1000);
        CHECK.due("all in the end", circuit(1, 1, 8, 0).grade(), 100);
        FlotationCircuit whole = circuit(99, 97, 8, 9);
        whole.setFeed(0, 999, 999);
        CHECK.due("989.01 and 969.03", whole.grade(), 505);
    }

    private static void p26IsInLoop() {
        CHECK.part("promise 26");
        FlotationCircuit x = circuit(0, 0, 1, 9, 0, 0, 2, 9, 0, 0, 1, 9, 100, 100, 8, 3, 50, 50, 5, 0);
        boolean[] want = {false, true, true, true, false};
        for (int cell = 0; cell < want.length; cell++) {
            CHECK.due("isInLoop(" + cell + "), whatever its percentages", x.isInLoop(cell), want[cell]);
        }
        CHECK.dueThrow("isInLoop(5)", INDEX, () -> x.isInLoop(5) ? 1 : 0);
        x.addCell(50, 50, 8, 4);
        CHECK.due("isInLoop(4) as soon as 5 exists", x.isInLoop(4), true);
        CHECK.due("isInLoop(0)", x.isInLoop(0), false);
        for (int cell : new int[] {-1, 6, 8, 9, MIN, MAX}) {
            CHECK.dueThrow("isInLoop(" + cell + ")", INDEX, () -> x.isInLoop(cell) ? 1 : 0);
        }
        x.setDestination(4, 0, 8);
        CHECK.due("isInLoop(4) when its link is gone", x.isInLoop(4), false);
        CHECK.due("isInLoop(5) when the link to it is gone", x.isInLoop(5), false);
        FlotationCircuit ring = circuit(1, 1, 5, 9, 1, 1, 0, 9, 1, 1, 1, 9, 1, 1, 2, 9, 1, 1, 3, 9, 1, 1, 9, 4);
        for (int cell = 0; cell < 6; cell++) {
            CHECK.due("isInLoop(" + cell + ") in a ring of six", ring.isInLoop(cell), true);
        }
    }

    private static void p27LoopCount() {
        CHECK.part("promise 27");
        CHECK.due("no cells", circuit().loopCount(), 0);
        CHECK.due("a chain", circuit(1, 1, 1, 9, 1, 1, 8, 9).loopCount(), 0);
        CHECK.due("to itself twice", circuit(1, 1, 0, 0).loopCount(), 1);
        CHECK.due("to a missing cell", circuit(1, 1, 1, 9).loopCount(), 0);
        CHECK.due("six loops", circuit(1, 1, 0, 9, 1, 1, 1, 0, 1, 1, 2, 1, 1, 1, 3, 2, 1, 1, 4, 3, 1, 1, 5, 4)
                .loopCount(), 6);
        CHECK.due("two pairs, one leads to the other", circuit(1, 1, 1, 9, 1, 1, 0, 2, 1, 1, 3, 9, 1, 1, 2, 9).loopCount(), 2);
        CHECK.due("two rings with a cell in common are one", circuit(1, 1, 1, 2, 1, 1, 0, 9, 1, 1, 0, 9).loopCount(), 1);
        CHECK.due("a ring of six", circuit(1, 1, 5, 9, 1, 1, 0, 9, 1, 1, 1, 9, 1, 1, 2, 9, 1, 1, 3, 9, 1, 1, 9, 4)
                .loopCount(), 1);
        CHECK.due("crossed pairs", circuit(0, 0, 4, 9, 0, 0, 3, 9, 0, 0, 8, 9, 0, 0, 1, 9, 0, 0, 0, 9).loopCount(), 2);
    }

    private static void p28BestImprovement() {
        CHECK.part("promise 28");
        CHECK.due("no cells", circuit().bestImprovement(), NONE);
        CHECK.due("a tie: the smallest number", circuit(50, 10, 1, 9, 50, 10, 8, 9).bestImprovement(), 0);
        // 0.55 * 0.4 = 0.22 is less than 0.5 * 0.45 = 0.225.
        CHECK.due("the smaller recovery of a chain", circuit(50, 10, 1, 9, 40, 10, 8, 9).bestImprovement(), 1);
        // 1.00 * 0.50 is less than 0.98 * 0.55.
        CHECK.due("at most 100", circuit(98, 10, 1, 9, 50, 10, 8, 9).bestImprovement(), 1);
        CHECK.due("no cell helps", circuit(100, 10, 8, 9, 50, 50, 8, 9).bestImprovement(), 0);
        CHECK.due("closed by the improvement", circuit(95, 50, 0, 8).bestImprovement(), NONE);
        CHECK.due("another cell then", circuit(95, 50, 0, 8, 50, 50, 8, 9).bestImprovement(), 1);
        CHECK.due("by 5 and no more", circuit(94, 50, 0, 8).bestImprovement(), 0);
        CHECK.due("opened by the improvement", circuit(0, 50, 8, 0).bestImprovement(), 0);
        CHECK.due("the gangue stays closed", circuit(50, 0, 8, 0).bestImprovement(), NONE);
        CHECK.due("an improvement that harms", circuit(50, 50, 9, 8, 50, 50, 9, 8).bestImprovement(), 1);
        FlotationCircuit x = circuit(50, 10, 1, 9, 40, 10, 8, 9);
        x.setFeed(0, 0, 900);
        CHECK.due("without metal all are alike", x.bestImprovement(), 0);
        CHECK.due("nothing changes", x.recovery(1, 0), 40);
        FlotationCircuit y = circuit(90, 10, 1, 9, 90, 10, 2, 9, 91, 10, 8, 9);
        // 0.95*0.9*0.91 = 0.77805 twice; 0.9*0.9*0.96 = 0.7776: 778, 778, 777.
        CHECK.due("compared by the total recovery in thousandths", y.bestImprovement(), 0);
    }

    private static void p29BestShutdown() {
        CHECK.part("promise 29");
        CHECK.due("no cells", circuit().bestShutdown(), NONE);
        CHECK.due("a tie: the smallest number", circuit(50, 10, 1, 9, 50, 10, 8, 0).bestShutdown(), 0);
        CHECK.due("the cell that gets nothing", circuit(50, 10, 8, 9, 50, 10, 8, 9).bestShutdown(), 1);
        CHECK.due("its tailings are the product", circuit(50, 10, 1, 9, 50, 10, 9, 8).bestShutdown(), 1);
        CHECK.due("closed by the shutdown", circuit(50, 50, 8, 0).bestShutdown(), NONE);
        CHECK.due("another cell then", circuit(50, 50, 8, 0, 50, 50, 8, 9).bestShutdown(), 1);
        CHECK.due("both recoveries are 0", circuit(50, 100, 0, 9).bestShutdown(), 0);
        CHECK.due("closed for the gangue alone", circuit(50, 50, 9, 1, 50, 0, 8, 0).bestShutdown(), 1);
        CHECK.due("one cell at a time", circuit(100, 100, 1, 9, 100, 100, 0, 9).bestShutdown(), 0);
        FlotationCircuit x = circuit(50, 10, 8, 9, 50, 10, 8, 9);
        x.bestShutdown();
        CHECK.due("nothing changes", x.recovery(1, 0), 50);
        CHECK.due("no action", x.undo(), 1);
    }

    private static void p30RecoveryFor() {
        CHECK.part("promise 30");
        FlotationCircuit x = circuit(80, 20, 8, 9);
        int[][] want = {{0, 0}, {1, 1}, {10, 1}, {11, 2}, {500, 50}, {501, 51}, {990, 99}, {991, 100}, {1000, 100}};
        for (int[] w : want) {
            CHECK.due("recoveryFor(0, " + w[0] + ")", x.recoveryFor(0, w[0]), w[1]);
        }
        CHECK.dueThrow("p -1", ARGUMENT, () -> x.recoveryFor(0, -1));
        CHECK.dueThrow("p 1001", ARGUMENT, () -> x.recoveryFor(0, 1001));
        CHECK.dueThrow("cell and p", INDEX, () -> x.recoveryFor(1, 1001));
        CHECK.dueThrow("cell -1", INDEX, () -> x.recoveryFor(-1, 5));
        CHECK.dueThrow("cell MAX", INDEX, () -> x.recoveryFor(MAX, 5));
        CHECK.due("nothing changes", x.recovery(0, 0), 80);
        CHECK.due("not reachable", circuit(50, 10, 1, 9, 50, 10, 8, 9).recoveryFor(0, 501), NONE);
        CHECK.due("just reachable", circuit(50, 10, 1, 9, 50, 10, 8, 9).recoveryFor(0, 500), 100);
        CHECK.due("0 is not considered", circuit(50, 50, 8, 0).recoveryFor(0, 0), 1);
        CHECK.due("a little is enough", circuit(50, 50, 8, 0).recoveryFor(0, 1000), 1);
        CHECK.due("the less the better", circuit(50, 50, 9, 8).recoveryFor(0, 1000), 0);
        CHECK.due("the gangue is closed", circuit(50, 0, 8, 0).recoveryFor(0, 0), NONE);
        CHECK.due("now closed, open with another value", circuit(0, 50, 8, 0).recoveryFor(0, 7), 1);
        // r / (200 - r) with the other cell at 50: 0.25 at 40.
        CHECK.due("in a loop", circuit(10, 10, 1, 9, 50, 10, 8, 0).recoveryFor(0, 250), 40);
        x.setFeed(0, 0, 900);
        CHECK.due("no metal, p 0", x.recoveryFor(0, 0), 0);
        CHECK.due("no metal, p 1", x.recoveryFor(0, 1), NONE);
    }

    private static void p31Measure() {
        CHECK.part("promise 31");
        FlotationCircuit x = circuit(80, 20, 8, 9);
        for (int[] wrong : new int[][] {{-1, 0}, {2, 0}, {0, -1}, {0, 1001}, {1, MIN}, {1, MAX}, {MIN, 5}, {8, 0}}) {
            CHECK.dueThrow("measure" + wrong[0] + "," + wrong[1], ARGUMENT, () -> x.measure(wrong[0], wrong[1]));
        }
        CHECK.due("no measurement yet", x.possibleRecoveries(0, 0), 101);
        CHECK.due("measure(0, 1000)", x.measure(0, 1000), 1);
        CHECK.due("measure(1, 0)", x.measure(1, 0), 2);
        for (int stored = 3; stored <= 5; stored++) {
            CHECK.due("measure(0, 0)", x.measure(0, 0), stored);
        }
        for (int i = 0; i < 4; i++) {
            CHECK.due("measure(0, 800)", x.measure(0, 800), 5);
            CHECK.due("older ones are false", x.possibleRecoveries(0, 0), 0);
        }
        CHECK.due("measure(0, 800)", x.measure(0, 800), 5);
        CHECK.due("all older ones are replaced", x.possibleRecoveries(0, 0), 1);
        CHECK.due("measure(0, 801)", x.measure(0, 801), 5);
        CHECK.due("the newest is false", x.possibleRecoveries(0, 0), 0);
        CHECK.due("no action", x.undo(), 0);
    }

    private static void p32PossibleRecoveries() {
        CHECK.part("promise 32");
        CHECK.due("all", circuit(80, 20, 8, 9).possibleRecoveries(0, 1), 101);
        CHECK.due("all but 0", circuit(80, 20, 8, 0).possibleRecoveries(0, 0), 100);
        CHECK.due("all but 100", circuit(80, 20, 0, 9).possibleRecoveries(0, 1), 100);
        CHECK.due("the other component is closed", circuit(0, 20, 8, 0).possibleRecoveries(0, 1), 0);
        CHECK.due("its own component is closed now", circuit(0, 20, 8, 0).possibleRecoveries(0, 0), 100);
        FlotationCircuit x = circuit(80, 20, 8, 9);
        x.measure(1, 307);
        CHECK.due("the gangue by the grade", x.possibleRecoveries(0, 1), 1);
        // r / (r + 180) is 0.307.. for 80 alone: 79 gives 0.305, 81 gives 0.310.
        CHECK.due("the metal by the grade", x.possibleRecoveries(0, 0), 1);
        x.measure(0, 800);
        CHECK.due("the metal by both", x.possibleRecoveries(0, 0), 1);
        CHECK.due("the gangue by both", x.possibleRecoveries(0, 1), 1);
        x.setRecovery(0, 0, 70);
        CHECK.due("the rest is as it is now", x.possibleRecoveries(0, 1), 0);
        CHECK.due("the unknown value itself does not matter", x.possibleRecoveries(0, 0), 1);
        x.addCell(50, 50, 8, 9);
        CHECK.due("a cell that gets nothing, 700 against 800", x.possibleRecoveries(1, 0), 0);
        x.undo();
        x.undo();
        x.addCell(50, 50, 8, 9);
        CHECK.due("a cell that gets nothing", x.possibleRecoveries(1, 0), 101);
        for (int[] wrong : new int[][] {{-1, 0}, {2, 0}, {8, 0}, {MIN, 0}, {MAX, 0}, {0, -1}, {0, 2}, {1, MAX}}) {
            CHECK.dueThrow("possibleRecoveries" + wrong[0] + "," + wrong[1], INDEX,
                    () -> x.possibleRecoveries(wrong[0], wrong[1]));
        }
        FlotationCircuit y = circuit(50, 50, 1, 9, 10, 10, 8, 9);
        y.measure(0, 5);
        CHECK.due("floor(r * 10 / 10) is 5", y.possibleRecoveries(0, 0), 1);
        y.setRecovery(1, 0, 1);
        CHECK.due("floor(r / 10) is 5", y.possibleRecoveries(0, 0), 10);
    }

    private static void p32MeasurementsStay() {
        CHECK.part("promise 32, memory");
        FlotationCircuit x = circuit(80, 20, 8, 9);
        x.save(0);
        x.measure(0, 800);
        x.restore(0);
        CHECK.due("after restore", x.possibleRecoveries(0, 0), 1);
        x.setRecovery(0, 0, 3);
        x.undo();
        CHECK.due("after undo", x.possibleRecoveries(0, 0), 1);
        CHECK.due("a second measurement", x.measure(0, 800), 2);
    }

    private static void p33Disturb() {
        CHECK.part("promise 33");
        int[] cells = {50, 10, 1, 2, 60, 20, 8, 0, 70, 30, 0, 9};
        for (long seed : new long[] {0, 1, -1, 77, 123456789012345L, Long.MIN_VALUE, Long.MAX_VALUE}) {
            for (int m : new int[] {1, 2, 30, 100}) {
                FlotationCircuit x = circuit(cells);
                FlotationCircuit y = circuit(cells);
                x.step(4);
                y.step(4);
                int got = x.disturb(seed, m);
                CHECK.due("disturb(" + seed + ", " + m + ")", got, disturbedByHand(y, seed, m));
                CHECK.due("disturb again on the same state", x.disturb(seed, m), got);
                CHECK.due("the state stays", x.step(1), circuit(cells).step(5));
                CHECK.due("no action", x.undo(), 4);
            }
        }
        CHECK.due("one cell", circuit(50, 50, 8, 9).disturb(3, 100), disturbedByHand(circuit(50, 50, 8, 9), 3, 100));
        FlotationCircuit empty = new FlotationCircuit();
        CHECK.due("no cells", empty.disturb(5, 100), 0);
        CHECK.due("no amount", empty.amount(9, 0), 0);
        for (int m : new int[] {0, -1, 101, MIN, MAX}) {
            CHECK.dueThrow("m " + m, ARGUMENT, () -> empty.disturb(5, m));
        }
    }

    private static int disturbedByHand(FlotationCircuit y, long seed, int m) {
        long x = seed;
        for (int i = 0; i < m; i++) {
            x = x * 6364136223846793005L + 1442695040888963407L;
            int r = (int) (x >>> 33);
            if (r % 3 == 0) {
                y.setRecovery(r / 3 % y.cellCount(), r / 64 % 2, r / 128 % 101);
            }
            y.step(1);
        }
        return y.amount(8, 0);
    }

    private static void p34Save() {
        CHECK.part("promise 34");
        FlotationCircuit x = circuit(80, 20, 8, 9, 1, 2, 3, 4);
        CHECK.due("save(0)", x.save(0), 2);
        x.removeLastCell();
        CHECK.due("save(1)", x.save(1), 1);
        for (int slot : new int[] {-1, 2, MIN, MAX}) {
            CHECK.dueThrow("save(" + slot + ")", INDEX, () -> x.save(slot));
        }
        CHECK.due("save is no action", x.undo(), 2);
        x.removeLastCell();
        x.removeLastCell();
        CHECK.due("restore(0)", x.restore(0), 2);
        CHECK.due("restore(1)", x.restore(1), 1);
        x.removeLastCell();
        CHECK.due("save(0) again", x.save(0), 0);
        CHECK.due("restore(1)", x.restore(1), 1);
        CHECK.due("restore(0), the newer state", x.restore(0), 0);
    }

    private static void p35Restore() {
        CHECK.part("promise 35");
        FlotationCircuit x = circuit(80, 20, 8, 1, 15, 25, 0, 9);
        x.setFeed(1, 40, 50);
        x.step(3);
        int held = x.content(1, 1);
        int done = x.amount(9, 1);
        x.save(1);
        CHECK.dueThrow("restore(0), empty", STATE, () -> x.restore(0));
        for (int slot : new int[] {-1, 2, MIN, MAX}) {
            CHECK.dueThrow("restore(" + slot + ")", INDEX, () -> x.restore(slot));
        }
        x.step(9);
        x.setFeed(0, 1, 1);
        x.setRecovery(1, 1, 99);
        x.setDestination(0, 1, 9);
        x.removeLastCell();
        for (int round = 0; round < 2; round++) {
            CHECK.due("restore(1)", x.restore(1), 2);
            CHECK.dueThrow("undo after restore", STATE, () -> x.undo());
            CHECK.due("feedCell", x.feedCell(), 1);
            CHECK.due("feedAmount(0)", x.feedAmount(0), 40);
            CHECK.due("feedAmount(1)", x.feedAmount(1), 50);
            CHECK.due("recovery(1, 1)", x.recovery(1, 1), 25);
            CHECK.due("destination(0, 1)", x.destination(0, 1), 1);
            CHECK.due("content(1, 1)", x.content(1, 1), held);
            CHECK.due("amount(9, 1)", x.amount(9, 1), done);
            x.drain();
            CHECK.due("restore is no action; the slot keeps its state", x.undo(), 0);
            x.setRecovery(1, 1, 98);
        }
    }
}
