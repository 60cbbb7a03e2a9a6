import java.math.BigInteger;

/** Promises 21 to 25, and what 'Description' says of the steady state. */
final class SteadyBoundaries extends Boundary {
    private static final int[] PERCENTAGES = {0, 1, 99, 100};
    private static final int[] PLACES = {0, 1, 5, 8, 9};

    private SteadyBoundaries() {
    }

    static void run() {
        trueIfItExists();
        streamCarriesAboveZero();
        fromEachCell();
        eachPairOfCells();
        forBothComponents();
        flowsAreBalanced();
        flowsAreExact();
        numeratorInLowestTerms();
        denominatorInLowestTerms();
        flowIntoCellOrProduct();
        flowRefusesIndexes();
        flowRefusesWithoutSteadyState();
        flowsIntoTheConcentrate();
        recoveryIsRoundedDown();
        recoveryIsZeroToThousand();
        recoveryRefuses();
        gradeInMillionths();
        gradeIsZeroToThousand();
        gradeRefuses();
    }

    private static void trueIfItExists() {
        promise(21, "Returns true if the steady state exists.");
        CHECK.due("without cells", circuit().hasSteadyState(), true);
        for (int cells = 1; cells <= 6; cells++) {
            FlotationCircuit x = row(cells);
            CHECK.due("a row of " + cells, x.hasSteadyState(), true);
            x.setDestination(cells - 1, 0, cells - 1);
            x.setDestination(cells - 1, 1, cells - 1);
            CHECK.due("the last of " + cells + " is closed", x.hasSteadyState(), false);
            x.undo();
            CHECK.due("open again", x.hasSteadyState(), true);
        }
        changesNothingInAllScenes("hasSteadyState()", x -> x.hasSteadyState() ? 1 : 0);
    }

    private static void streamCarriesAboveZero() {
        description("A stream carries a component if its percentage of that component is greater than 0.", 21, 22, 24);
        for (int r = 0; r <= 100; r++) {
            CHECK.due("metal by the concentrate at " + r, circuit(r, 50, 8, 0).hasSteadyState(), r > 0);
            CHECK.due("gangue by the concentrate at " + r, circuit(50, r, 8, 0).hasSteadyState(), r > 0);
            CHECK.due("metal by the tailings at " + r, circuit(r, 50, 0, 9).hasSteadyState(), r < 100);
            CHECK.due("gangue by the tailings at " + r, circuit(50, r, 0, 9).hasSteadyState(), r < 100);
        }
    }

    private static void fromEachCell() {
        description("The steady state of a component exists if from each cell (also from those that get nothing) a product can be"
                + " reached along streams that carry this component.", 21, 22, 24, 25);
        for (int cell = 0; cell < 6; cell++) {
            FlotationCircuit x = circuit(50, 50, 8, 9, 50, 50, 8, 9, 50, 50, 8, 9, 50, 50, 8, 9, 50, 50, 8, 9, 50, 50, 8, 9);
            x.setFeed((cell + 1) % 6, 100, 900);
            x.setDestination(cell, 0, cell);
            CHECK.due("one way out of " + cell, x.hasSteadyState(), true);
            x.setRecovery(cell, 1, 100);
            CHECK.due("no way out for the gangue, of which " + cell + " gets none", x.hasSteadyState(), false);
            x.setFeed((cell + 1) % 6, 0, 0);
            CHECK.due("also without any feed", x.hasSteadyState(), false);
            x.setRecovery(cell, 1, 99);
            CHECK.due("a little way out", x.hasSteadyState(), true);
        }
        FlotationCircuit ring = circuit(1, 1, 1, 1, 1, 1, 2, 2, 1, 1, 3, 3, 1, 1, 4, 4, 1, 1, 5, 5, 1, 1, 0, 0);
        CHECK.due("a closed ring of six", ring.hasSteadyState(), false);
        ring.setDestination(3, 0, 9);
        CHECK.due("one hundredth leaves it", ring.hasSteadyState(), true);
        ring.setRecovery(3, 0, 0);
        CHECK.due("no metal leaves it", ring.hasSteadyState(), false);
        ring.undo();
        ring.removeLastCell();
        CHECK.due("a cell that is gone opens it", ring.hasSteadyState(), true);
    }

    /** All circuits of two cells with these percentages and places, by the reachability of a product. */
    private static void eachPairOfCells() {
        promise(21, "Returns true if the steady state exists.");
        int kinds = PERCENTAGES.length * PLACES.length * PLACES.length;
        for (int first = 0; first < kinds; first++) {
            for (int second = 0; second < kinds; second++) {
                FlotationCircuit x = new FlotationCircuit();
                addKind(x, first);
                addKind(x, second);
                boolean metal = leaves(x, 0);
                boolean gangue = leaves(x, 1);
                CHECK.due("kinds " + first + " and " + second, x.hasSteadyState(), metal && gangue);
                if (!metal) {
                    CHECK.dueThrow("flow of metal", STATE, () -> x.flowNumerator(0, 0));
                }
                if (!gangue) {
                    CHECK.dueThrow("flow of gangue", STATE, () -> x.flowDenominator(9, 1));
                }
            }
        }
    }

    private static void addKind(FlotationCircuit x, int kind) {
        int r = PERCENTAGES[kind % PERCENTAGES.length];
        int rest = kind / PERCENTAGES.length;
        x.addCell(r, 100 - r, PLACES[rest % PLACES.length], PLACES[rest / PLACES.length]);
    }

    private static boolean leaves(FlotationCircuit x, int component) {
        boolean[] leaving = new boolean[x.cellCount()];
        for (int round = 0; round < leaving.length; round++) {
            for (int cell = 0; cell < leaving.length; cell++) {
                for (int stream = 0; stream < 2; stream++) {
                    int to = x.destination(cell, stream);
                    boolean carries = stream == 0 ? x.recovery(cell, component) > 0 : x.recovery(cell, component) < 100;
                    leaving[cell] |= carries && (to >= leaving.length || leaving[to]);
                }
            }
        }
        for (boolean leaf : leaving) {
            if (!leaf) {
                return false;
            }
        }
        return true;
    }

    private static void forBothComponents() {
        description("The steady state exists if it exists for both components.", 21, 24, 25);
        CHECK.due("both", circuit(1, 1, 8, 0).hasSteadyState(), true);
        CHECK.due("gangue alone", circuit(0, 1, 8, 0).hasSteadyState(), false);
        CHECK.due("metal alone", circuit(1, 0, 8, 0).hasSteadyState(), false);
        CHECK.due("none", circuit(0, 0, 8, 0).hasSteadyState(), false);
        CHECK.due("each in another cell", circuit(0, 1, 8, 0, 1, 0, 8, 1).hasSteadyState(), false);
        CHECK.due("the flow of the one that has it", circuit(0, 1, 8, 0).flowNumerator(8, 1), 900);
        CHECK.due("the flow of the one that has it", circuit(1, 0, 8, 0).flowNumerator(8, 0), 100);
    }

    private static void flowsAreBalanced() {
        description("The flow of a component into a cell or a product is its amount per hour in the steady state: the flows are"
                + " numbers such that the flow into each cell or product is the sum of what reaches it from the feed and from the"
                + " streams of all cells, where a cell sends flow * recovery / 100 with its concentrate stream and flow * (100 -"
                + " recovery) / 100 with its tailings stream.", 22, 23);
        for (int i = 0; i < 400; i++) {
            balanced(drawn(i), 0);
            balanced(drawn(i), 1);
        }
        balanced(circuit(0, 100, 8, 9, 100, 0, 8, 9), 0);
        balanced(circuit(50, 50, 1, 1, 50, 50, 8, 9), 1);
    }

    /** Some circuit of 0 to 6 cells, each number another one. */
    private static FlotationCircuit drawn(int number) {
        FlotationCircuit x = new FlotationCircuit();
        long dice = 11 + number;
        for (int cell = 0; cell < number % 7; cell++) {
            int[] drawn = new int[4];
            for (int k = 0; k < 4; k++) {
                dice = dice * 6364136223846793005L + 1442695040888963407L;
                int chosen = (int) (dice >>> 33);
                drawn[k] = k < 2 ? 1 + chosen % 99 : chosen % 8 < 6 ? chosen % 8 : chosen % 8 + 2;
            }
            x.addCell(drawn[0], drawn[1], drawn[2], drawn[3]);
        }
        x.setFeed(number % 6, number % 1000, 999 - number % 1000);
        return x;
    }

    private static void balanced(FlotationCircuit x, int component) {
        if (!leaves(x, component)) {
            CHECK.dueThrow("no flow", STATE, () -> x.flowNumerator(9, component));
            return;
        }
        int cells = x.cellCount();
        for (int place = 0; place <= 9; place++) {
            if (place < cells || place >= 8) {
                Reference.Fraction sum = reaches(place, x.feedCell(), cells)
                        ? Reference.Fraction.of(x.feedAmount(component)) : Reference.Fraction.ZERO;
                for (int cell = 0; cell < cells; cell++) {
                    for (int stream = 0; stream < 2; stream++) {
                        if (reaches(place, x.destination(cell, stream), cells)) {
                            int r = x.recovery(cell, component);
                            sum = sum.plus(flow(x, cell, component).times(hundredths(stream == 0 ? r : 100 - r)));
                        }
                    }
                }
                CHECK.isTrue("the flow into " + place + " is " + sum, flow(x, place, component).equals(sum));
            }
        }
    }

    private static boolean reaches(int place, int to, int cells) {
        return place == to || place == 9 && to >= cells && to != 8;
    }

    private static Reference.Fraction hundredths(int percentage) {
        return Reference.Fraction.of(BigInteger.valueOf(percentage), BigInteger.valueOf(100));
    }

    /** As answered, not reduced. */
    private static Reference.Fraction flow(FlotationCircuit x, int to, int component) {
        return new Reference.Fraction(BigInteger.valueOf(x.flowNumerator(to, component)),
                BigInteger.valueOf(x.flowDenominator(to, component)));
    }

    private static void flowIs(FlotationCircuit x, int to, int component, long numerator, long denominator) {
        CHECK.due("flowNumerator(" + to + ", " + component + ")", x.flowNumerator(to, component), numerator);
        CHECK.due("flowDenominator(" + to + ", " + component + ")", x.flowDenominator(to, component), denominator);
    }

    private static void flowsAreExact() {
        description("Then the flows are uniquely determined rational numbers, which are computed exactly.", 22, 23);
        FlotationCircuit row = circuit(33, 99, 1, 9, 33, 99, 2, 9, 33, 99, 3, 9, 33, 99, 4, 9, 33, 99, 5, 9, 33, 99, 8, 9);
        row.setFeed(0, 999, 999);
        long third = 33L * 33 * 33 * 33 * 33 * 33;
        long nearly = 99L * 99 * 99 * 99 * 99 * 99;
        flowIs(row, 8, 0, 999 * third, 1000000000000L);
        flowIs(row, 9, 0, 999 * (1000000000000L - third), 1000000000000L);
        flowIs(row, 8, 1, 999 * nearly, 1000000000000L);
        flowIs(row, 9, 1, 999 * (1000000000000L - nearly), 1000000000000L);
        FlotationCircuit far = circuit(1, 99, 1, 0, 1, 99, 2, 0, 1, 99, 3, 0, 1, 99, 4, 0, 1, 99, 5, 0, 1, 99, 8, 0);
        far.setFeed(0, 999, 999);
        flowIs(far, 0, 0, 999000000000000L, 1);
        flowIs(far, 5, 0, 99900, 1);
        flowIs(far, 8, 0, 999, 1);
        flowIs(far, 0, 1, 999000000000000L / 27, nearly / 27);
        flowIs(far, 9, 1, 0, 1);
    }

    private static long divisor(long a, long b) {
        return b == 0 ? a : divisor(b, a % b);
    }

    private static void numeratorInLowestTerms() {
        promise(22, "Returns the numerator of a flow.",
                "Returns the numerator of the flow of the component into it, in lowest terms (0 if the flow is 0).");
        for (int r = 1; r <= 100; r++) {
            FlotationCircuit x = circuit(r, r, 8, 0);
            for (int feed = 0; feed <= 999; feed += feed < 20 || feed > 980 ? 1 : 7) {
                x = feed % 5 == 0 ? circuit(r, r, 8, 0) : x;
                x.setFeed(0, feed, 999 - feed);
                CHECK.due("100 * " + feed + " / " + r, x.flowNumerator(0, 0), 100L * feed / divisor(100L * feed, r));
                long gangue = 100L * (999 - feed);
                CHECK.due(gangue + " / " + r, x.flowNumerator(0, 1), gangue / divisor(gangue, r));
            }
        }
        CHECK.due("no flow into a cell", circuit(50, 50, 8, 9, 50, 50, 8, 9).flowNumerator(1, 0), 0);
        CHECK.due("no flow into a product", circuit(50, 50, 8, 8).flowNumerator(9, 0), 0);
        changesNothing("flowNumerator(1, 0)", Boundary::lively, x -> x.flowNumerator(1, 0));
    }

    private static void denominatorInLowestTerms() {
        promise(23, "Returns the denominator of a flow.", "Returns the denominator of the flow of the component into it, in"
                + " lowest terms, 1 or greater (1 if the flow is 0).");
        for (int r = 1; r <= 100; r++) {
            FlotationCircuit x = circuit(r, r, 8, 0);
            for (int feed = 0; feed <= 999; feed += feed < 20 || feed > 980 ? 1 : 7) {
                x = feed % 5 == 0 ? circuit(r, r, 8, 0) : x;
                x.setFeed(0, feed, 999 - feed);
                CHECK.due("100 * " + feed + " / " + r, x.flowDenominator(0, 0), r / divisor(100L * feed, r));
                long gangue = 100L * (999 - feed);
                CHECK.due(gangue + " / " + r, x.flowDenominator(0, 1), r / divisor(gangue, r));
            }
        }
        CHECK.due("no flow into a cell", circuit(50, 50, 8, 9, 50, 50, 8, 9).flowDenominator(1, 0), 1);
        CHECK.due("no flow into a product", circuit(33, 33, 8, 8).flowDenominator(9, 0), 1);
        CHECK.due("a whole number", circuit(33, 33, 8, 9).flowDenominator(8, 0), 1);
        CHECK.due("without cells", circuit().flowDenominator(8, 1), 1);
        changesNothing("flowDenominator(1, 0)", Boundary::lively, x -> x.flowDenominator(1, 0));
    }

    private static void flowIntoCellOrProduct() {
        promise(22, "`to`: a cell, or 8 or 9 for a product", "`component`: 0 or 1");
        places();
        promise(23, "`to`: a cell, or 8 or 9 for a product", "`component`: 0 or 1");
        places();
    }

    private static void places() {
        for (int cells = 0; cells <= 6; cells++) {
            FlotationCircuit x = new FlotationCircuit();
            for (int cell = 0; cell < cells; cell++) {
                boolean last = cell + 1 == cells;
                x.addCell(50, 100, last ? 9 : cell + 1, last ? 9 : 8);
            }
            for (int cell = 0; cell < cells; cell++) {
                long part = 1L << cell;
                flowIs(x, cell, 0, 100 / divisor(100, part), part / divisor(100, part));
                flowIs(x, cell, 1, 900, 1);
            }
            long last = cells == 0 ? 1 : 1L << cells - 1;
            flowIs(x, 9, 0, 100 / divisor(100, last), last / divisor(100, last));
            flowIs(x, 8, 0, 100 * (last - 1) / divisor(100 * (last - 1), last), last / divisor(100 * (last - 1), last));
            flowIs(x, 9, 1, 900, 1);
            flowIs(x, 8, 1, 0, 1);
        }
    }

    private static void flowRefusesIndexes() {
        String sentence = "Throws `IndexOutOfBoundsException` if to is neither an existing cell nor 8 or 9, or the component does not"
                + " exist";
        promise(22, sentence);
        flowIndexes("flowNumerator", (x, to, component) -> x.flowNumerator(to, component));
        promise(23, sentence);
        flowIndexes("flowDenominator", (x, to, component) -> x.flowDenominator(to, component));
    }

    private static void flowIndexes(String name, PairCall call) {
        for (int cells = 0; cells <= 6; cells++) {
            int count = cells;
            for (int to : new int[] {-1, count, 6, 7, 10, 11, NONE, MIN, MAX}) {
                refused(name + "(" + to + ", 0) of " + count, INDEX, () -> row(count), x -> call.on(x, to, 0));
                refused(name + "(" + to + ", 1) of " + count, INDEX, () -> row(count), x -> call.on(x, to, 1));
            }
            for (int component : new int[] {-1, 2, 8, NONE, MIN, MAX}) {
                for (int to : new int[] {Math.max(count - 1, 0), 8, 9, 7}) {
                    refused(name + "(" + to + ", " + component + ")", INDEX, () -> row(count), x -> call.on(x, to, component));
                }
            }
            for (int to = 0; to <= 9; to++) {
                int place = to;
                if (to < count || to >= 8) {
                    answers(name + "(" + to + ", 0)", row(count), x -> call.on(x, place, 0));
                    answers(name + "(" + to + ", 1)", row(count), x -> call.on(x, place, 1));
                }
            }
        }
        for (int[] wrong : new int[][] {{2, 0}, {7, 0}, {10, 0}, {-1, 1}, {0, 2}, {8, -1}, {9, 2}}) {
            refused(name + "(" + wrong[0] + ", " + wrong[1] + ") without a steady state", INDEX, Boundary::closed,
                    x -> call.on(x, wrong[0], wrong[1]));
        }
    }

    private static void flowRefusesWithoutSteadyState() {
        String sentence = "Throws `IllegalStateException` if the steady state of this component does not exist";
        promise(22, sentence);
        flowStates("flowNumerator", (x, to, component) -> x.flowNumerator(to, component));
        promise(23, sentence);
        flowStates("flowDenominator", (x, to, component) -> x.flowDenominator(to, component));
    }

    private static void flowStates(String name, PairCall call) {
        Scene metalClosed = () -> circuit(0, 1, 8, 0, 50, 50, 8, 9);
        Scene gangueClosed = () -> circuit(50, 50, 8, 9, 1, 0, 8, 1);
        for (int to : new int[] {0, 1, 8, 9}) {
            refused(name + "(" + to + ", 0)", STATE, metalClosed, x -> call.on(x, to, 0));
            refused(name + "(" + to + ", 1)", STATE, gangueClosed, x -> call.on(x, to, 1));
            refused(name + "(" + to + ", 0)", STATE, Boundary::closed, x -> call.on(x, to, 0));
            refused(name + "(" + to + ", 1)", STATE, Boundary::closed, x -> call.on(x, to, 1));
            answers(name + "(" + to + ", 1) of the other component", metalClosed.make(), x -> call.on(x, to, 1));
            answers(name + "(" + to + ", 0) of the other component", gangueClosed.make(), x -> call.on(x, to, 0));
        }
    }

    private static void flowsIntoTheConcentrate() {
        description("Let f and h be the flows of metal and of gangue into the final concentrate, and g the feed amount of metal.",
                24, 25);
        FlotationCircuit x = circuit(30, 60, 9, 8);
        x.setFeed(0, 200, 50);
        CHECK.due("f is 140, g is 200", x.totalRecovery(), 700);
        CHECK.due("f is 140, h is 20", x.grade(), 875);
        x.setDestination(0, 0, 8);
        CHECK.due("by both streams", x.totalRecovery(), 1000);
        CHECK.due("200 and 50", x.grade(), 800);
        x.setFeed(1, 200, 50);
        CHECK.due("the feed misses the cells", x.totalRecovery(), 0);
    }

    private static void recoveryIsRoundedDown() {
        description("The total recovery is floor(1000 * f / g); it is 0 if g is 0.", 24);
        for (int first = 0; first <= 100; first++) {
            for (int second = 0; second <= 100; second++) {
                FlotationCircuit x = circuit(first, 50, 1, 9, second, 50, 8, 9);
                CHECK.due("floor(" + first + " * " + second + " / 10)", x.totalRecovery(), first * second / 10);
            }
        }
        FlotationCircuit x = circuit(100, 50, 8, 8);
        x.setFeed(0, 0, 999);
        CHECK.due("g is 0", x.totalRecovery(), 0);
        for (int g : new int[] {1, 2, 3, 7, 998, 999}) {
            x.setFeed(0, g, 0);
            CHECK.due("all of " + g, x.totalRecovery(), 1000);
        }
        x.setRecovery(0, 0, 37);
        x.setDestination(0, 1, 9);
        x.setFeed(0, 1, 0);
        CHECK.due("f is less than 1", x.totalRecovery(), 370);
    }

    private static void recoveryIsZeroToThousand() {
        promise(24, "Returns the total recovery.", "Returns the total recovery, 0 to 1000.");
        CHECK.due("without cells", circuit().totalRecovery(), 0);
        CHECK.due("nothing", circuit(0, 50, 8, 9).totalRecovery(), 0);
        CHECK.due("all", circuit(100, 50, 8, 9).totalRecovery(), 1000);
        FlotationCircuit nearly = circuit(99, 9, 8, 1, 99, 9, 8, 2, 99, 9, 8, 3, 99, 9, 8, 4, 99, 9, 8, 5, 99, 9, 8, 9);
        CHECK.due("all but a 10^12th", nearly.totalRecovery(), 999);
        nearly.setDestination(5, 1, 8);
        CHECK.due("all", nearly.totalRecovery(), 1000);
        nearly.setDestination(5, 1, 0);
        CHECK.due("all, as it returns", nearly.totalRecovery(), 1000);
        FlotationCircuit hardly = circuit(1, 9, 1, 9, 1, 9, 2, 9, 1, 9, 3, 9, 1, 9, 4, 9, 1, 9, 5, 9, 1, 9, 8, 9);
        CHECK.due("a 10^12th", hardly.totalRecovery(), 0);
        CHECK.due("just below a thousandth", circuit(9, 9, 1, 9, 1, 9, 8, 9).totalRecovery(), 0);
        CHECK.due("just a thousandth", circuit(10, 9, 1, 9, 1, 9, 8, 9).totalRecovery(), 1);
        changesNothing("totalRecovery()", Boundary::full, x -> x.totalRecovery());
    }

    private static void recoveryRefuses() {
        promise(24, "Throws `IllegalStateException` if the steady state does not exist");
        withoutSteadyState("totalRecovery()", x -> x.totalRecovery());
    }

    private static void withoutSteadyState(String name, Call call) {
        refused(name + ", none", STATE, Boundary::closed, call);
        refused(name + ", not of metal", STATE, () -> circuit(0, 1, 8, 0), call);
        refused(name + ", not of gangue", STATE, () -> circuit(1, 0, 8, 0), call);
        refused(name + ", not of a cell that gets nothing", STATE, () -> circuit(50, 50, 8, 9, 50, 50, 1, 1), call);
        refused(name + ", without feed", STATE, SteadyBoundaries::closedWithoutFeed, call);
        FlotationCircuit x = circuit(0, 1, 8, 0);
        x.setRecovery(0, 0, 1);
        answers(name + ", as soon as it exists", x, call);
        answers(name + ", without cells", circuit(), call);
    }

    private static FlotationCircuit closedWithoutFeed() {
        FlotationCircuit x = closed();
        x.setFeed(0, 0, 0);
        return x;
    }

    /** The flows are 10^-6 times the feed amounts, times what a fourth cell lets through. */
    private static FlotationCircuit millionth(int metal, int gangue, int feedMetal, int feedGangue) {
        FlotationCircuit x = circuit(1, 1, 1, 9, 1, 1, 2, 9, 1, 1, 3, 9, metal, gangue, 8, 9);
        x.setFeed(0, feedMetal, feedGangue);
        return x;
    }

    private static void gradeInMillionths() {
        description("The grade is computed from the flows in millionths: let F be floor(1000000 * f) and H be floor(1000000 * h);"
                + " the grade is floor(1000 * F / (F + H)), or 0 if F + H is 0.", 25);
        CHECK.due("F 1, H 1", millionth(100, 100, 1, 1).grade(), 500);
        CHECK.due("F 1, H 2", millionth(100, 100, 1, 2).grade(), 333);
        CHECK.due("F 2, H 1", millionth(100, 100, 2, 1).grade(), 666);
        CHECK.due("F 0 as f is 0.99 millionths, H 1", millionth(99, 100, 1, 1).grade(), 0);
        CHECK.due("F 1, H 0 as h is 0.99 millionths", millionth(100, 99, 1, 1).grade(), 1000);
        CHECK.due("F 0, H 0 of 0.99 millionths", millionth(99, 99, 1, 1).grade(), 0);
        CHECK.due("F 1 of 1.98, H 1", millionth(99, 100, 2, 1).grade(), 500);
        CHECK.due("F 1, H 1 of 1.98", millionth(100, 99, 1, 2).grade(), 500);
        CHECK.due("F 1 of 1.98, H 1 of 1.98", millionth(99, 99, 2, 2).grade(), 500);
        CHECK.due("F 98 of 98.01, H 1 of 1.98", millionth(99, 99, 99, 2).grade(), 989);
        CHECK.due("F 999, H 999", millionth(100, 100, 999, 999).grade(), 500);
        CHECK.due("F 9 of 9.99, H 0 of 0.999", millionth(1, 1, 999, 99).grade(), 1000);
        CHECK.due("no flow", millionth(0, 0, 999, 999).grade(), 0);
        CHECK.due("no feed", millionth(100, 100, 0, 0).grade(), 0);
        FlotationCircuit hundredths = circuit(1, 1, 8, 9);
        hundredths.setFeed(0, 1, 999);
        CHECK.due("F 10000, H 9990000", hundredths.grade(), 1);
        CHECK.due("what returns 99 times", circuit(99, 99, 0, 8).grade(), 100);
        FlotationCircuit great = circuit(100, 100, 8, 9);
        for (int metal = 0; metal <= 998; metal += 2) {
            great = metal % 400 == 0 ? circuit(100, 100, 8, 9) : great;
            great.setFeed(0, metal, 999 - metal);
            CHECK.due("whole flows, " + metal, great.grade(), 1000 * metal / 999);
        }
    }

    private static void gradeIsZeroToThousand() {
        promise(25, "Returns the grade.", "Returns the grade, 0 to 1000.");
        CHECK.due("without cells", circuit().grade(), 0);
        CHECK.due("gangue alone", circuit(0, 100, 8, 9).grade(), 0);
        CHECK.due("metal alone", circuit(100, 0, 8, 9).grade(), 1000);
        int[][] want = {{999, 1, 999}, {1, 999, 1}, {1, 998, 1}, {999, 0, 1000}, {0, 999, 0}, {500, 500, 500}};
        for (int[] w : want) {
            FlotationCircuit x = circuit(100, 100, 8, 9);
            x.setFeed(0, w[0], w[1]);
            CHECK.due(w[0] + " and " + w[1], x.grade(), w[2]);
        }
        FlotationCircuit below = circuit(99, 100, 8, 9);
        below.setFeed(0, 1, 999);
        CHECK.due("0.99 of 999.99", below.grade(), 0);
        FlotationCircuit above = circuit(100, 99, 8, 9);
        above.setFeed(0, 999, 1);
        CHECK.due("999 of 999.99", above.grade(), 999);
        changesNothing("grade()", Boundary::full, x -> x.grade());
    }

    private static void gradeRefuses() {
        promise(25, "Throws `IllegalStateException` if the steady state does not exist");
        withoutSteadyState("grade()", x -> x.grade());
    }
}
