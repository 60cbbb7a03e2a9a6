/** Promise 33. */
final class DisturbBoundaries extends Boundary {
    private static final long FACTOR = 6364136223846793005L;
    private static final long SUMMAND = 1442695040888963407L;

    private DisturbBoundaries() {
    }

    static void run() {
        onACopy();
        seedIsAnyLong();
        overflows();
        whichRecovery();
        valuesWrapAround();
        disturbedBeforeTheStep();
        takesOneToHundredSteps();
        returnsTheMetalOfTheCopy();
        refuses();
    }

    /** The seed for which the first r is the one wanted. */
    private static long seedFor(int r) {
        long inverse = 1;
        for (int i = 0; i < 7; i++) {
            inverse *= 2 - FACTOR * inverse;
        }
        return (((long) r << 33) - SUMMAND) * inverse;
    }

    /** Cells in a row of tailings that recover nothing; cell k holds 100 (k + 1) of metal. */
    private static FlotationCircuit staircase(int cells) {
        FlotationCircuit x = new FlotationCircuit();
        for (int cell = 0; cell < cells; cell++) {
            x.addCell(0, 0, 8, cell + 1 < cells ? cell + 1 : 9);
        }
        for (int cell = cells - 1; cell >= 0; cell--) {
            x.setFeed(0, 100 * (cell + 1), 500);
            x.step(1);
        }
        return x;
    }

    private static int byHand(FlotationCircuit x, long seed, int m) {
        long drawn = seed;
        for (int i = 0; i < m; i++) {
            drawn = drawn * FACTOR + SUMMAND;
            int r = (int) (drawn >>> 33);
            if (x.cellCount() > 0 && r % 3 == 0) {
                x.setRecovery(r / 3 % x.cellCount(), r / 64 % 2, r / 128 % 101);
            }
            x.step(1);
        }
        return x.amount(8, 0);
    }

    private static void onACopy() {
        promise(33, "Simulates m steps on a copy of the state while recoveries are disturbed at random.");
        for (int m : new int[] {1, 2, 100}) {
            changesNothingInAllScenes("disturb(7, " + m + ")", x -> x.disturb(7, m));
        }
        FlotationCircuit x = lively();
        int first = x.disturb(12345, 100);
        CHECK.due("the same again", x.disturb(12345, 100), first);
        CHECK.due("from the present contents", x.disturb(12345, 50), byHand(lively(), 12345, 50));
    }

    private static void seedIsAnyLong() {
        promise(33, "A long x starts as the seed.", "`seed`: any long");
        for (long seed : new long[] {0, 1, -1, MAX, MIN, 1L << 32, Long.MAX_VALUE, Long.MIN_VALUE, Long.MIN_VALUE + 1}) {
            for (int cells = 0; cells <= 6; cells++) {
                CHECK.due("disturb(" + seed + ", 60) of " + cells, row(cells).disturb(seed, 60), byHand(row(cells), seed, 60));
            }
            CHECK.due("disturb(" + seed + ", 99)", lively().disturb(seed, 99), byHand(lively(), seed, 99));
        }
    }

    private static void overflows() {
        promise(33, "Before each step x is replaced by x * 6364136223846793005L + 1442695040888963407L (with long overflow), and r ="
                + " (int) (x >>> 33) is computed.");
        for (int r : new int[] {0, 3, 12801, MAX, MAX - 1, MAX / 2, MAX / 2 + 1}) {
            long x = seedFor(r) * FACTOR + SUMMAND;
            CHECK.due("the seed for " + r, x >>> 33, r);
        }
        CHECK.due("r 12801: the metal recovery becomes 100", staircase(1).disturb(seedFor(12801), 1), 100);
        // The greatest r that is divisible by 3 and means metal, with x below 0 as a long.
        int greatest = MAX - 64 - (MAX - 64) % 3;
        CHECK.due("it means metal", greatest / 64 % 2, 0);
        CHECK.due("the greatest r", staircase(1).disturb(seedFor(greatest), 1), greatest / 128 % 101);
        CHECK.due("each step draws anew", staircase(3).disturb(seedFor(12801), 2), byHand(staircase(3), seedFor(12801), 2));
    }

    private static void whichRecovery() {
        promise(33, "If there are cells and r % 3 is 0, the recovery of cell r / 3 % (number of cells) for the component r / 64 % 2"
                + " becomes r / 128 % 101.");
        for (int r = 0; r <= 700; r++) {
            for (int cells = 1; cells <= 6; cells++) {
                boolean metal = r % 3 == 0 && r / 64 % 2 == 0;
                int want = metal ? (r / 3 % cells + 1) * (r / 128 % 101) : 0;
                CHECK.due("r " + r + " of " + cells + " cells", staircase(cells).disturb(seedFor(r), 1), want);
            }
        }
        for (int seed = 0; seed < 50; seed++) {
            CHECK.due("without cells", circuit().disturb(seed, 100), 0);
        }
    }

    private static void valuesWrapAround() {
        promise(33, "If there are cells and r % 3 is 0, the recovery of cell r / 3 % (number of cells) for the component r / 64 % 2"
                + " becomes r / 128 % 101.");
        for (int value = 0; value <= 305; value++) {
            int r = 128 * value + (3 - 128 * value % 3) % 3;
            CHECK.due("r " + r, staircase(1).disturb(seedFor(r), 1), value % 101);
            CHECK.due("one more is not divisible", staircase(1).disturb(seedFor(r + 1), 1), 0);
            CHECK.due("the gangue's", staircase(1).disturb(seedFor(r + 66), 1), 0);
        }
        CHECK.due("r / 128 is 100", staircase(1).disturb(seedFor(12801), 1), 100);
        CHECK.due("r / 128 is 101", staircase(1).disturb(seedFor(12930), 1), 0);
        CHECK.due("r / 128 is 102", staircase(1).disturb(seedFor(13056), 1), 1);
    }

    private static void disturbedBeforeTheStep() {
        promise(33, "Then a step is made.");
        CHECK.due("the step has the new recovery", staircase(2).disturb(seedFor(12801), 1), 200);
        CHECK.due("a step also without a disturbance", circuit(100, 0, 8, 9).disturb(seedFor(1), 1), 0);
        FlotationCircuit x = circuit(100, 0, 8, 9);
        x.step(1);
        CHECK.due("what stood in the cell", x.disturb(seedFor(1), 1), 100);
    }

    private static void takesOneToHundredSteps() {
        promise(33, "`m`: number of steps, 1 to 100");
        for (int m = 1; m <= 100; m++) {
            CHECK.due("disturb(99, " + m + ")", row(3).disturb(99, m), byHand(row(3), 99, m));
        }
        CHECK.dueThrow("m 0", ARGUMENT, () -> row(3).disturb(99, 0));
        CHECK.dueThrow("m 101", ARGUMENT, () -> row(3).disturb(99, 101));
    }

    private static void returnsTheMetalOfTheCopy() {
        promise(33, "Returns the amount of metal of the final concentrate of the copy then.");
        FlotationCircuit x = circuit(100, 0, 8, 9);
        x.step(4);
        CHECK.due("with what was there before", x.disturb(seedFor(1), 1), 400);
        CHECK.due("the object's own amount stays", x.amount(8, 0), 300);
        FlotationCircuit gangue = circuit(0, 100, 8, 9);
        gangue.step(4);
        CHECK.due("no gangue", gangue.disturb(seedFor(1), 1), 0);
    }

    private static void refuses() {
        promise(33, "Throws `IllegalArgumentException` if m is out of range");
        for (int m : new int[] {0, -1, 101, 102, NONE, MIN, MAX}) {
            refusedInAllScenes("disturb(5, " + m + ")", ARGUMENT, x -> x.disturb(5, m));
            refusedInAllScenes("disturb(MIN, " + m + ")", ARGUMENT, x -> x.disturb(Long.MIN_VALUE, m));
        }
    }
}
