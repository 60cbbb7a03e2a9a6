/** Promises 16, 17, 19 and 20: the simulation, contents and amounts. */
final class ContentBoundaries extends Boundary {
    private ContentBoundaries() {
    }

    static void run() {
        stepMakesSteps();
        stepTakesOneToHundred();
        stepReturnsTheMetal();
        stepRefuses();
        zeroAtFirst();
        allAtTheSameTime();
        splitRoundsDown();
        splitIsExact();
        newContentAndAddedAmount();
        drainMakesAllZero();
        drainReturnsTheSum();
        contentOfACell();
        contentRefuses();
        amountOfAProduct();
        amountRefuses();
    }

    private static void stepMakesSteps() {
        promise(16, "Makes steps of the simulation.");
        for (int n : new int[] {1, 2, 3, 50, 99, 100}) {
            FlotationCircuit x = lively();
            FlotationCircuit y = lively();
            x.step(n);
            for (int i = 0; i < n; i++) {
                y.step(1);
            }
            same("step(" + n + ") and as many step(1)", x, y);
        }
        FlotationCircuit none = new FlotationCircuit();
        none.step(1);
        CHECK.due("a step without cells", none.amount(9, 1), 900);
    }

    private static void stepTakesOneToHundred() {
        promise(16, "`n`: number of steps, 1 to 100");
        FlotationCircuit x = new FlotationCircuit();
        x.setFeed(0, 1, 2);
        x.step(1);
        CHECK.due("step(1)", x.amount(9, 0), 1);
        x.step(100);
        CHECK.due("step(100)", x.amount(9, 0), 101);
        CHECK.dueThrow("step(0)", ARGUMENT, () -> x.step(0));
        CHECK.dueThrow("step(101)", ARGUMENT, () -> x.step(101));
        CHECK.due("the amount then", x.amount(9, 1), 202);
    }

    private static void stepReturnsTheMetal() {
        promise(16, "Returns the amount of metal of the final concentrate then.");
        FlotationCircuit x = circuit(100, 50, 8, 9);
        CHECK.due("nothing has come yet", x.step(1), 0);
        CHECK.due("the first", x.step(1), 100);
        CHECK.due("all of it, not this call's", x.step(3), 400);
        CHECK.due("as amount(8, 0)", x.step(1), x.amount(8, 0));
        x.drain();
        CHECK.due("from 0 behind drain", x.step(1), 0);
        for (int n = 1; n <= 100; n++) {
            CHECK.due("step(" + n + ") of a new object", circuit(37, 50, 8, 9).step(n), 37 * (n - 1));
            FlotationCircuit later = circuit(37, 50, 8, 9);
            later.step(11);
            CHECK.due("step(" + n + ") then", later.step(n), 37 * (n + 10));
        }
    }

    private static void stepRefuses() {
        promise(16, "Throws `IllegalArgumentException` if n is out of range");
        for (int n : new int[] {0, -1, 101, 102, 1000, NONE, MIN, MAX}) {
            refusedInAllScenes("step(" + n + ")", ARGUMENT, x -> x.step(n));
        }
    }

    private static void zeroAtFirst() {
        description("Each cell has a content of each component, an integer, 0 at first; each product has an amount of each"
                + " component, 0 at first.", 1, 11, 19, 20);
        FlotationCircuit x = row(6);
        for (int component = 0; component < 2; component++) {
            for (int cell = 0; cell < 6; cell++) {
                CHECK.due("content(" + cell + ", " + component + ")", x.content(cell, component), 0);
            }
            CHECK.due("amount(8, " + component + ")", x.amount(8, component), 0);
            CHECK.due("amount(9, " + component + ")", x.amount(9, component), 0);
            CHECK.due("amount of a new object", new FlotationCircuit().amount(9, component), 0);
        }
    }

    private static void allAtTheSameTime() {
        description("In one step, all at the same time: each cell splits its content of each component: floor(content *"
                + " recovery / 100) (exactly, without overflow) goes to the destination of its concentrate stream and the rest"
                + " to that of its tailings stream; and the feed amounts go to the feed cell.", 16);
        FlotationCircuit up = circuit(100, 100, 1, 9, 100, 100, 2, 9, 100, 100, 3, 9, 100, 100, 4, 9, 100, 100, 5, 9, 100, 100, 8, 9);
        FlotationCircuit down = circuit(0, 0, 9, 8, 0, 0, 9, 0, 0, 0, 9, 1, 0, 0, 9, 2, 0, 0, 9, 3, 0, 0, 9, 4);
        for (int at = 0; at < 6; at++) {
            up.setFeed(0, at == 0 ? 10 : 0, at == 0 ? 20 : 0);
            down.setFeed(5, at == 0 ? 10 : 0, at == 0 ? 20 : 0);
            CHECK.due("nothing runs ahead", up.step(1) + down.step(1), 0);
            for (int cell = 0; cell < 6; cell++) {
                CHECK.due("one cell a step, up", up.content(cell, 0), cell == at ? 10 : 0);
                CHECK.due("one cell a step, down", down.content(5 - cell, 1), cell == at ? 20 : 0);
            }
        }
        CHECK.due("the sixth cell's, up", up.step(1), 10);
        CHECK.due("the first cell's, down", down.step(1), 10);
        FlotationCircuit swap = circuit(100, 100, 1, 1, 0, 0, 0, 0);
        swap.setFeed(0, 7, 0);
        swap.step(1);
        swap.setFeed(1, 3, 0);
        swap.step(1);
        CHECK.due("the stream and the feed", swap.content(1, 0), 10);
        swap.setFeed(5, 0, 0);
        swap.step(1);
        CHECK.due("all goes back", swap.content(0, 0), 10);
        CHECK.due("none stays", swap.content(1, 0), 0);
    }

    /** Each content up to the greatest feed with each recovery. */
    private static void splitRoundsDown() {
        promise(16, "Makes steps of the simulation.");
        for (int r = 0; r <= 100; r++) {
            FlotationCircuit x = circuit(r, 100 - r, 8, 9);
            for (int content = 0; content <= 999; content++) {
                if (content % 60 == 0) {
                    x = circuit(r, 100 - r, 8, 9);
                }
                x.setFeed(0, content, content);
                x.drain();
                x.step(2);
                int metal = content * r / 100;
                int gangue = content * (100 - r) / 100;
                CHECK.due("floor(" + content + " * " + r + " / 100)", x.amount(8, 0), metal);
                CHECK.due("the rest of the metal", x.amount(9, 0), content - metal);
                CHECK.due("floor of the gangue", x.amount(8, 1), gangue);
                CHECK.due("the rest of the gangue", x.amount(9, 1), content - gangue);
            }
        }
    }

    private static void splitIsExact() {
        description("In one step, all at the same time: each cell splits its content of each component: floor(content *"
                + " recovery / 100) (exactly, without overflow) goes to the destination of its concentrate stream and the rest"
                + " to that of its tailings stream; and the feed amounts go to the feed cell.", 16, 33);
        for (int r : new int[] {1, 33, 43, 44, 67, 86, 97, 99, 100}) {
            FlotationCircuit x = circuit(0, 0, 8, 0);
            x.setFeed(0, 999, 997);
            for (int i = 0; i < 500; i++) {
                x.step(100);
            }
            long metal = 999L * 50000;
            long gangue = 997L * 50000;
            CHECK.due("the metal", x.content(0, 0), metal);
            x.setRecovery(0, 0, r);
            x.setRecovery(0, 1, r);
            CHECK.due("floor(" + metal + " * " + r + " / 100)", x.step(1), metal * r / 100);
            CHECK.due("the rest and the feed", x.content(0, 0), metal - metal * r / 100 + 999);
            CHECK.due("the gangue", x.amount(8, 1), gangue * r / 100);
            CHECK.due("the rest of the gangue and the feed", x.content(0, 1), gangue - gangue * r / 100 + 997);
        }
    }

    private static void newContentAndAddedAmount() {
        description("What reaches a cell is its new content; what reaches a product is added to its amount.", 16, 19, 20);
        FlotationCircuit x = circuit(60, 30, 8, 9);
        for (int steps = 1; steps <= 5; steps++) {
            x.step(1);
            CHECK.due("the content is new", x.content(0, 0), 100);
            CHECK.due("the gangue is new", x.content(0, 1), 900);
            CHECK.due("metal is added to the concentrate", x.amount(8, 0), 60 * (steps - 1));
            CHECK.due("gangue is added to the concentrate", x.amount(8, 1), 270 * (steps - 1));
            CHECK.due("metal is added to the tailings", x.amount(9, 0), 40 * (steps - 1));
            CHECK.due("gangue is added to the tailings", x.amount(9, 1), 630 * (steps - 1));
        }
        x.setFeed(1, 1, 1);
        x.step(1);
        CHECK.due("nothing reaches the cell", x.content(0, 0) + x.content(0, 1), 0);
        CHECK.due("stream and feed reach the tailings", x.amount(9, 0), 160 + 40 + 1);
    }

    private static void drainMakesAllZero() {
        promise(17, "Makes all contents of cells and all amounts of products 0.");
        for (Scene scene : new Scene[] {Boundary::lively, Boundary::full, Boundary::closed, FlotationCircuit::new}) {
            FlotationCircuit x = scene.make();
            FlotationCircuit before = scene.make();
            x.step(1);
            x.drain();
            for (int component = 0; component < 2; component++) {
                for (int cell = 0; cell < x.cellCount(); cell++) {
                    CHECK.due("content of " + cell, x.content(cell, component), 0);
                    CHECK.due("the recovery stays", x.recovery(cell, component), before.recovery(cell, component));
                    CHECK.due("the destination stays", x.destination(cell, component), before.destination(cell, component));
                }
                CHECK.due("amount of 8", x.amount(8, component), 0);
                CHECK.due("amount of 9", x.amount(9, component), 0);
                CHECK.due("the feed stays", x.feedAmount(component), before.feedAmount(component));
            }
            CHECK.due("the feed cell stays", x.feedCell(), before.feedCell());
            CHECK.due("the cells stay", x.cellCount(), before.cellCount());
        }
    }

    private static void drainReturnsTheSum() {
        promise(17, "Returns the sum of all contents of both components that the cells had.");
        CHECK.due("without cells", new FlotationCircuit().drain(), 0);
        FlotationCircuit none = new FlotationCircuit();
        none.step(5);
        CHECK.due("amounts do not count", none.drain(), 0);
        FlotationCircuit x = circuit(100, 100, 1, 9, 100, 100, 2, 9, 100, 100, 3, 9, 100, 100, 4, 9, 100, 100, 5, 9, 100, 100, 8, 9);
        CHECK.due("before any step", x.drain(), 0);
        int[] powers = {1, 2, 4, 8, 16, 32};
        for (int power : powers) {
            x.setFeed(0, power, 10 * power);
            x.step(1);
        }
        CHECK.due("six cells, both components", x.drain(), 63 * 11);
        CHECK.due("again", x.drain(), 0);
        FlotationCircuit great = circuit(0, 0, 0, 0);
        great.setFeed(0, 999, 999);
        for (int i = 0; i < 509; i++) {
            great.step(100);
        }
        CHECK.due("the greatest sum, at the 512th call", great.drain(), 2L * 999 * 50900);
    }

    private static void contentOfACell() {
        promise(19, "Returns the content of a cell.", "`cell`: cell", "Returns its content of the component.");
        for (int cell = 0; cell < 6; cell++) {
            FlotationCircuit x = row(6);
            x.setFeed(cell, 3 + cell, 30 + cell);
            x.step(1);
            for (int other = 0; other < 6; other++) {
                CHECK.due("metal of " + other, x.content(other, 0), other == cell ? 3 + cell : 0);
                CHECK.due("gangue of " + other, x.content(other, 1), other == cell ? 30 + cell : 0);
            }
        }
        changesNothing("content(2, 1)", Boundary::lively, x -> x.content(2, 1));
    }

    private static void contentRefuses() {
        promise(19, "`component`: 0 or 1",
                "Throws `IndexOutOfBoundsException` if the cell or the component does not exist");
        cellAndOneOfTwo("content", (x, cell, component) -> x.content(cell, component));
        FlotationCircuit x = row(2);
        x.step(2);
        x.removeLastCell();
        CHECK.dueThrow("content of a cell that was removed", INDEX, () -> x.content(1, 0));
    }

    private static void amountOfAProduct() {
        promise(20, "Returns the amount of a product.", "Returns its amount of the component.");
        FlotationCircuit x = circuit(1, 2, 8, 9);
        x.step(2);
        CHECK.due("amount(8, 0)", x.amount(8, 0), 1);
        CHECK.due("amount(8, 1)", x.amount(8, 1), 18);
        CHECK.due("amount(9, 0)", x.amount(9, 0), 99);
        CHECK.due("amount(9, 1)", x.amount(9, 1), 882);
        changesNothingInAllScenes("amount(9, 1)", y -> y.amount(9, 1));
    }

    private static void amountRefuses() {
        promise(20, "`product`: 8 or 9", "`component`: 0 or 1",
                "Throws `IndexOutOfBoundsException` if the product or the component does not exist");
        for (int product : new int[] {0, 1, 5, 6, 7, 10, 11, -1, NONE, MIN, MAX}) {
            refusedInAllScenes("amount(" + product + ", 0)", INDEX, x -> x.amount(product, 0));
            refusedInAllScenes("amount(" + product + ", 1)", INDEX, x -> x.amount(product, 1));
        }
        for (int component : new int[] {-1, 2, 8, NONE, MIN, MAX}) {
            refusedInAllScenes("amount(8, " + component + ")", INDEX, x -> x.amount(8, component));
            refusedInAllScenes("amount(9, " + component + ")", INDEX, x -> x.amount(9, component));
            refusedInAllScenes("amount(7, " + component + ")", INDEX, x -> x.amount(7, component));
        }
    }
}
