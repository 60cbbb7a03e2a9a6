import java.util.Arrays;

/**
 * A flotation circuit: cells that split ore into concentrate and tailings, joined by streams, with the
 * exact steady state of all flows and a step-by-step simulation of the contents.
 */
public final class FlotationCircuit {
    public static final int NONE = -9;
    public static final int FINAL_CONCENTRATE = 8, FINAL_TAILINGS = 9;

    private static final int MAX_CELLS = 6;
    private static final int METAL = 0, GANGUE = 1;
    private static final int CONCENTRATE = 0, TAILINGS = 1;
    private static final int ALL = 100;
    private static final int MAX_FEED = 999;
    private static final int MAX_STEPS = 100;
    private static final int PER_MILLE = 1000;
    private static final int IMPROVEMENT = 5;
    private static final int REMEMBERED = 14;
    private static final int SLOTS = 2;

    private final CircuitText text = new CircuitText();
    private final State state = new State();
    private final State trial = new State();
    private final History history = new History();
    private final StateRows slots = new StateRows(SLOTS);
    private final boolean[] slotFilled = new boolean[SLOTS];
    private final Simulation simulation = new Simulation();
    private final Balance balance = new Balance();
    private final Loops loops = new Loops();
    private final Measurements measurements = new Measurements();
    private final Shares shares = new Shares();
    private final Shares sharesAtZero = new Shares();
    private final Shares sharesAtOne = new Shares();

    public FlotationCircuit() {
    }

    // ---- text

    public int append(int c) throws IllegalArgumentException, IllegalStateException {
        requireRange(c, 0, 255);
        if (text.isFull()) {
            throw new IllegalStateException("the text is full");
        }
        return text.add((char) c);
    }

    public int clearText() {
        return text.empty();
    }

    public int errorPosition() {
        return text.firstError();
    }

    public int load() throws IllegalStateException {
        if (text.firstError() != NONE) {
            throw new IllegalStateException("the text is no complete circuit text");
        }
        text.readInto(state);
        history.forget();
        for (int slot = 0; slot < SLOTS; slot++) {
            slotFilled[slot] = false;
        }
        return state.count();
    }

    // ---- the circuit

    public int cellCount() {
        return state.count();
    }

    public int recovery(int cell, int component) throws IndexOutOfBoundsException {
        requireCell(cell);
        requireOneOfTwo(component);
        return state.percent(cell, component);
    }

    public int destination(int cell, int stream) throws IndexOutOfBoundsException {
        requireCell(cell);
        requireOneOfTwo(stream);
        return state.route(cell, stream);
    }

    public int feedCell() {
        return state.fedCell();
    }

    public int feedAmount(int component) throws IndexOutOfBoundsException {
        requireOneOfTwo(component);
        return state.feed(component);
    }

    // ---- actions

    public int addCell(int metal, int gangue, int concentrateTo, int tailingsTo)
            throws IllegalArgumentException, IllegalStateException {
        requireRange(metal, 0, ALL);
        requireRange(gangue, 0, ALL);
        requireDestination(concentrateTo);
        requireDestination(tailingsTo);
        if (state.count() >= MAX_CELLS) {
            throw new IllegalStateException("there is no room for another cell");
        }
        history.remember(state);
        state.pushCell(metal, gangue, concentrateTo, tailingsTo);
        return state.count() - 1;
    }

    public int removeLastCell() throws IllegalStateException {
        if (state.count() <= 0) {
            throw new IllegalStateException("there is no cell");
        }
        history.remember(state);
        state.popCell();
        return state.count();
    }

    public int setRecovery(int cell, int component, int r)
            throws IndexOutOfBoundsException, IllegalArgumentException {
        requireCell(cell);
        requireOneOfTwo(component);
        requireRange(r, 0, ALL);
        history.remember(state);
        int previous = state.percent(cell, component);
        state.putPercent(cell, component, r);
        return previous;
    }

    public int setDestination(int cell, int stream, int to)
            throws IndexOutOfBoundsException, IllegalArgumentException {
        requireCell(cell);
        requireOneOfTwo(stream);
        requireDestination(to);
        history.remember(state);
        int previous = state.route(cell, stream);
        state.putRoute(cell, stream, to);
        return previous;
    }

    public int setFeed(int cell, int metal, int gangue) throws IllegalArgumentException {
        requireRange(cell, 0, MAX_CELLS - 1);
        requireRange(metal, 0, MAX_FEED);
        requireRange(gangue, 0, MAX_FEED);
        history.remember(state);
        int previous = state.fedCell();
        state.putFeed(cell, metal, gangue);
        return previous;
    }

    public int step(int n) throws IllegalArgumentException {
        requireRange(n, 1, MAX_STEPS);
        history.remember(state);
        for (int done = 0; done < n; done++) {
            simulation.advance(state);
        }
        return state.collected(FINAL_CONCENTRATE, METAL);
    }

    public int drain() {
        history.remember(state);
        int held = state.sumOfContents();
        state.emptyAll();
        return held;
    }

    public int undo() throws IllegalStateException {
        if (history.size() <= 0) {
            throw new IllegalStateException("no state is remembered");
        }
        history.takeBack(state);
        return history.size();
    }

    // ---- contents

    public int content(int cell, int component) throws IndexOutOfBoundsException {
        requireCell(cell);
        requireOneOfTwo(component);
        return state.held(cell, component);
    }

    public int amount(int product, int component) throws IndexOutOfBoundsException {
        if (!isProduct(product)) {
            throw new IndexOutOfBoundsException("no such product");
        }
        requireOneOfTwo(component);
        return state.collected(product, component);
    }

    // ---- the steady state

    public boolean hasSteadyState() {
        shares.compute(state, balance);
        return shares.exist();
    }

    public long flowNumerator(int to, int component) throws IndexOutOfBoundsException, IllegalStateException {
        solveFlow(to, component);
        return balance.reducedNumerator(state.feed(component));
    }

    public long flowDenominator(int to, int component) throws IndexOutOfBoundsException, IllegalStateException {
        solveFlow(to, component);
        return balance.reducedDenominator(state.feed(component));
    }

    public int totalRecovery() throws IllegalStateException {
        requireSteadyState();
        return shares.recoveryPerMille(state);
    }

    public int grade() throws IllegalStateException {
        requireSteadyState();
        return shares.gradePerMille(state);
    }

    public boolean isInLoop(int cell) throws IndexOutOfBoundsException {
        requireCell(cell);
        loops.trace(state);
        return loops.returnsTo(cell);
    }

    public int loopCount() {
        loops.trace(state);
        return loops.number(state.count());
    }

    public int bestImprovement() {
        return bestChange(false);
    }

    public int bestShutdown() {
        return bestChange(true);
    }

    public int recoveryFor(int cell, int p) throws IndexOutOfBoundsException, IllegalArgumentException {
        requireCell(cell);
        requireRange(p, 0, PER_MILLE);
        prepareUnknown(cell, METAL);
        for (int r = 0; r <= ALL; r++) {
            shares.extend(sharesAtZero, sharesAtOne, r);
            if (shares.exist() && shares.recoveryPerMille(state) >= p) {
                return r;
            }
        }
        return NONE;
    }

    // ---- measurements

    public int measure(int what, int p) throws IllegalArgumentException {
        requireRange(what, 0, 1);
        requireRange(p, 0, PER_MILLE);
        return measurements.store(what, p);
    }

    public int possibleRecoveries(int cell, int component) throws IndexOutOfBoundsException {
        requireCell(cell);
        requireOneOfTwo(component);
        prepareUnknown(cell, component);
        int possible = 0;
        for (int r = 0; r <= ALL; r++) {
            shares.extend(sharesAtZero, sharesAtOne, r);
            if (shares.exist()
                    && measurements.agree(shares.recoveryPerMille(state), shares.gradePerMille(state))) {
                possible++;
            }
        }
        return possible;
    }

    // ---- random disturbances

    public int disturb(long seed, int m) throws IllegalArgumentException {
        requireRange(m, 1, MAX_STEPS);
        trial.copyFrom(state);
        long x = seed;
        for (int done = 0; done < m; done++) {
            x = x * 6364136223846793005L + 1442695040888963407L;
            disturbTrial((int) (x >>> 33));
            simulation.advance(trial);
        }
        return trial.collected(FINAL_CONCENTRATE, METAL);
    }

    // ---- save slots

    public int save(int slot) throws IndexOutOfBoundsException {
        requireOneOfTwo(slot);
        slots.put(slot, state);
        slotFilled[slot] = true;
        return state.count();
    }

    public int restore(int slot) throws IndexOutOfBoundsException, IllegalStateException {
        requireOneOfTwo(slot);
        if (!slotFilled[slot]) {
            throw new IllegalStateException("the slot is empty");
        }
        slots.fetch(slot, state);
        history.forget();
        return state.count();
    }

    // ---- what several methods share

    private static boolean isProduct(int to) {
        return to == FINAL_CONCENTRATE || to == FINAL_TAILINGS;
    }

    private static void requireOneOfTwo(int index) {
        if (index != 0 && index != 1) {
            throw new IndexOutOfBoundsException("neither 0 nor 1");
        }
    }

    private static void requireRange(int value, int least, int greatest) {
        if (value < least || value > greatest) {
            throw new IllegalArgumentException("out of range");
        }
    }

    private static void requireDestination(int to) {
        if (!isProduct(to) && (to < 0 || to >= MAX_CELLS)) {
            throw new IllegalArgumentException("no such destination");
        }
    }

    private void requireCell(int cell) {
        if (!state.has(cell)) {
            throw new IndexOutOfBoundsException("no such cell");
        }
    }

    private void requireSteadyState() {
        shares.compute(state, balance);
        if (!shares.exist()) {
            throw new IllegalStateException("there is no steady state");
        }
    }

    private void solveFlow(int to, int component) {
        if (!state.has(to) && !isProduct(to)) {
            throw new IndexOutOfBoundsException("neither a cell nor a product");
        }
        requireOneOfTwo(component);
        balance.solve(state, component, to);
        if (!balance.isSolved()) {
            throw new IllegalStateException("the component has no steady state");
        }
    }

    /** The cell whose shutdown, or else improvement, gives the greatest total recovery. */
    private int bestChange(boolean shut) {
        int best = NONE;
        int greatest = NONE;
        for (int cell = 0; cell < state.count(); cell++) {
            changeTrial(cell, shut);
            shares.compute(trial, balance);
            int reached = shares.exist() ? shares.recoveryPerMille(trial) : NONE;
            if (reached > greatest) {
                greatest = reached;
                best = cell;
            }
        }
        return best;
    }

    private void changeTrial(int cell, boolean shut) {
        trial.copyFrom(state);
        if (shut) {
            trial.putPercent(cell, METAL, 0);
            trial.putPercent(cell, GANGUE, 0);
        } else {
            trial.putPercent(cell, METAL, Math.min(ALL, state.percent(cell, METAL) + IMPROVEMENT));
        }
    }

    private void prepareUnknown(int cell, int component) {
        trial.copyFrom(state);
        trial.putPercent(cell, component, 0);
        sharesAtZero.compute(trial, balance);
        trial.putPercent(cell, component, 1);
        sharesAtOne.compute(trial, balance);
    }

    private void disturbTrial(int r) {
        int cells = trial.count();
        if (cells > 0 && r % 3 == 0) {
            trial.putPercent(r / 3 % cells, r / 64 % 2, r / 128 % 101);
        }
    }

    /** The cells, the feed, the contents and the amounts, in one row so that a copy is one arraycopy. */
    private static final class State {
        static final int LENGTH = 44;
        private static final int COUNT = 0, FED_CELL = 1, FEED = 2;
        private static final int RECOVERIES = 4, DESTINATIONS = 16, CONTENTS = 28, AMOUNTS = 40;

        private final int[] values = new int[LENGTH];

        State() {
            values[FEED + METAL] = 100;
            values[FEED + GANGUE] = 900;
        }

        int count() {
            return values[COUNT];
        }

        boolean has(int cell) {
            return cell >= 0 && cell < values[COUNT];
        }

        int percent(int cell, int component) {
            return values[RECOVERIES + 2 * cell + component];
        }

        void putPercent(int cell, int component, int r) {
            values[RECOVERIES + 2 * cell + component] = r;
        }

        /** The percentage that leaves with a stream. */
        int carried(int cell, int component, int stream) {
            int lifted = percent(cell, component);
            return stream == CONCENTRATE ? lifted : ALL - lifted;
        }

        int route(int cell, int stream) {
            return values[DESTINATIONS + 2 * cell + stream];
        }

        void putRoute(int cell, int stream, int to) {
            values[DESTINATIONS + 2 * cell + stream] = to;
        }

        /** Where a stream really goes now: an existing cell or a product. */
        int target(int cell, int stream) {
            return present(route(cell, stream));
        }

        int fedCell() {
            return values[FED_CELL];
        }

        int feedTarget() {
            return present(values[FED_CELL]);
        }

        private int present(int to) {
            boolean existing = to >= 0 && to < values[COUNT];
            return existing || to == FINAL_CONCENTRATE ? to : FINAL_TAILINGS;
        }

        int feed(int component) {
            return values[FEED + component];
        }

        void putFeed(int cell, int metal, int gangue) {
            values[FED_CELL] = cell;
            values[FEED + METAL] = metal;
            values[FEED + GANGUE] = gangue;
        }

        int held(int cell, int component) {
            return values[CONTENTS + 2 * cell + component];
        }

        void putHeld(int cell, int component, int content) {
            values[CONTENTS + 2 * cell + component] = content;
        }

        int collected(int product, int component) {
            return values[AMOUNTS + 2 * (product - FINAL_CONCENTRATE) + component];
        }

        void collect(int product, int component, int more) {
            values[AMOUNTS + 2 * (product - FINAL_CONCENTRATE) + component] += more;
        }

        void pushCell(int metal, int gangue, int concentrateTo, int tailingsTo) {
            int cell = values[COUNT];
            if (cell >= MAX_CELLS) {
                return;
            }
            putPercent(cell, METAL, metal);
            putPercent(cell, GANGUE, gangue);
            putRoute(cell, CONCENTRATE, concentrateTo);
            putRoute(cell, TAILINGS, tailingsTo);
            putHeld(cell, METAL, 0);
            putHeld(cell, GANGUE, 0);
            values[COUNT] = cell + 1;
        }

        void popCell() {
            if (values[COUNT] > 0) {
                values[COUNT]--;
            }
        }

        void dropCells() {
            values[COUNT] = 0;
        }

        int sumOfContents() {
            int sum = 0;
            for (int cell = 0; cell < values[COUNT]; cell++) {
                sum += held(cell, METAL) + held(cell, GANGUE);
            }
            return sum;
        }

        void emptyAll() {
            for (int i = CONTENTS; i < LENGTH; i++) {
                values[i] = 0;
            }
        }

        void copyFrom(State other) {
            System.arraycopy(other.values, 0, values, 0, LENGTH);
        }
    }

    /** A fixed number of states, kept in one array so that keeping a state makes no object. */
    private static final class StateRows {
        private final int rows;
        private final int[] values;

        StateRows(int rows) {
            this.rows = Math.max(rows, 0);
            this.values = new int[this.rows * State.LENGTH];
        }

        void put(int row, State source) {
            if (row >= 0 && row < rows) {
                System.arraycopy(source.values, 0, values, row * State.LENGTH, State.LENGTH);
            }
        }

        void fetch(int row, State goal) {
            if (row >= 0 && row < rows) {
                System.arraycopy(values, row * State.LENGTH, goal.values, 0, State.LENGTH);
            }
        }
    }

    /** The states before the last actions, in a ring: the newest overwrites the oldest. */
    private static final class History {
        private final StateRows ring = new StateRows(REMEMBERED);
        private int next = 0;
        private int kept = 0;

        int size() {
            return kept;
        }

        void remember(State before) {
            ring.put(next, before);
            next = (next + 1) % REMEMBERED;
            kept = Math.min(kept + 1, REMEMBERED);
        }

        void takeBack(State goal) {
            if (kept > 0) {
                next = (next + REMEMBERED - 1) % REMEMBERED;
                kept--;
                ring.fetch(next, goal);
            }
        }

        void forget() {
            kept = 0;
        }
    }

    /** The text buffer and the rules of a circuit text. */
    private static final class CircuitText {
        private static final int CAPACITY = 60;
        private static final int HEAD_LENGTH = 8;
        private static final int CELL_LENGTH = 7;

        private final char[] signs = new char[CAPACITY];
        private int length = 0;

        boolean isFull() {
            return length >= CAPACITY;
        }

        int add(char sign) {
            if (length < CAPACITY) {
                signs[length] = sign;
                length++;
            }
            return length;
        }

        int empty() {
            int previous = length;
            length = 0;
            return previous;
        }

        int firstError() {
            for (int at = 0; at < length; at++) {
                if (!isAllowed(at, signs[at])) {
                    return at;
                }
            }
            boolean complete = length >= HEAD_LENGTH && (length - HEAD_LENGTH) % CELL_LENGTH == 0;
            return complete ? NONE : length;
        }

        private static boolean isAllowed(int at, char sign) {
            if (at == 0) {
                return sign == 'F';
            }
            if (at == 1) {
                return isCellDigit(sign);
            }
            if (at < HEAD_LENGTH) {
                return isDigit(sign);
            }
            int behindHead = at - HEAD_LENGTH;
            return behindHead < MAX_CELLS * CELL_LENGTH && isAllowedInCell(behindHead % CELL_LENGTH, sign);
        }

        private static boolean isAllowedInCell(int place, char sign) {
            if (place == 0) {
                return sign == 'C';
            }
            return place < 5 ? isDigit(sign) : isCellDigit(sign) || sign == '8' || sign == '9';
        }

        private static boolean isDigit(char sign) {
            return sign >= '0' && sign <= '9';
        }

        private static boolean isCellDigit(char sign) {
            return sign >= '0' && sign <= '5';
        }

        /** Only for a complete circuit text. */
        void readInto(State goal) {
            goal.dropCells();
            goal.emptyAll();
            goal.putFeed(number(1, 1), number(2, 3), number(5, 3));
            for (int at = HEAD_LENGTH; at < length; at += CELL_LENGTH) {
                goal.pushCell(number(at + 1, 2), number(at + 3, 2), number(at + 5, 1), number(at + 6, 1));
            }
        }

        private int number(int from, int digits) {
            int value = 0;
            for (int at = from; at < from + digits && at < length; at++) {
                value = 10 * value + (signs[at] - '0');
            }
            return value;
        }
    }

    /** One step of the contents; the row is indexed by cell or product number. */
    private static final class Simulation {
        private final int[] arriving = new int[FINAL_TAILINGS + 1];

        void advance(State s) {
            // A component never touches the other one, so each can make the step for itself.
            moveComponent(s, METAL);
            moveComponent(s, GANGUE);
        }

        private void moveComponent(State s, int component) {
            Arrays.fill(arriving, 0);
            arriving[s.feedTarget()] += s.feed(component);
            for (int cell = 0; cell < s.count(); cell++) {
                int held = s.held(cell, component);
                int lifted = (int) ((long) held * s.percent(cell, component) / ALL);
                arriving[s.target(cell, CONCENTRATE)] += lifted;
                arriving[s.target(cell, TAILINGS)] += held - lifted;
            }
            for (int cell = 0; cell < s.count(); cell++) {
                s.putHeld(cell, component, arriving[cell]);
            }
            s.collect(FINAL_CONCENTRATE, component, arriving[FINAL_CONCENTRATE]);
            s.collect(FINAL_TAILINGS, component, arriving[FINAL_TAILINGS]);
        }
    }

    /**
     * The steady state of one component, by Cramer's rule.
     *
     * Let v(i) be how often one unit in cell i passes the goal from now on. For a product, 100 v(i) is
     * the sum over the streams of i of percentage * v(target), v being 1 at the product itself; for a
     * cell, 100 is added at that cell. The flow into the goal is the feed amount times v(feed cell).
     *
     * The determinant is positive if from each cell a product can be reached along streams that carry
     * the component, and 0 otherwise: it tells by itself whether the steady state exists. It is at most
     * 100^6, the product of the diagonal, and so is the numerator.
     */
    private static final class Balance {
        private static final int GCD_ROUNDS = 200;

        private final long[] equations = new long[MAX_CELLS * MAX_CELLS];
        private final long[] minors = new long[1 << MAX_CELLS];
        private long numerator = 0;
        private long denominator = 1;

        boolean isSolved() {
            return denominator > 0;
        }

        void solve(State s, int component, int goal) {
            fillEquations(s, component);
            denominator = determinant(s.count());
            int start = s.feedTarget();
            if (s.has(start)) {
                fillColumn(s, component, start, goal);
                numerator = determinant(s.count());
            } else {
                numerator = start == goal ? denominator : 0;
            }
        }

        long reducedNumerator(int feed) {
            long divisor = commonDivisor(feed * numerator, denominator);
            return divisor > 0 ? feed * numerator / divisor : 0;
        }

        long reducedDenominator(int feed) {
            long divisor = commonDivisor(feed * numerator, denominator);
            return divisor > 0 ? denominator / divisor : 1;
        }

        private void fillEquations(State s, int component) {
            Arrays.fill(equations, 0L);
            for (int cell = 0; cell < s.count(); cell++) {
                equations[MAX_CELLS * cell + cell] = ALL;
                for (int stream = CONCENTRATE; stream <= TAILINGS; stream++) {
                    int target = s.target(cell, stream);
                    if (s.has(target)) {
                        equations[MAX_CELLS * cell + target] -= s.carried(cell, component, stream);
                    }
                }
            }
        }

        /** Puts the right sides of the equations in the place of a column. */
        private void fillColumn(State s, int component, int column, int goal) {
            for (int cell = 0; cell < s.count(); cell++) {
                long right = cell == goal ? ALL : 0;
                for (int stream = CONCENTRATE; stream <= TAILINGS; stream++) {
                    if (isProduct(goal) && s.target(cell, stream) == goal) {
                        right += s.carried(cell, component, stream);
                    }
                }
                equations[MAX_CELLS * cell + column] = right;
            }
        }

        /**
         * Without any division, so that all stays whole: the minor of the first k rows and a set of k
         * columns comes from those of k - 1 rows. No row's absolute values sum to more than 300, so no
         * minor exceeds 300^6, far inside a long.
         */
        private long determinant(int size) {
            int last = (1 << Math.min(size, MAX_CELLS)) - 1;
            minors[0] = 1;
            for (int columns = 1; columns <= last; columns++) {
                minors[columns] = expand(Integer.bitCount(columns) - 1, columns);
            }
            return minors[last];
        }

        private long expand(int row, int columns) {
            long sum = 0;
            long sign = 1;
            for (int column = MAX_CELLS - 1; column >= 0; column--) {
                int bit = 1 << column;
                if ((columns & bit) != 0) {
                    sum += sign * equations[MAX_CELLS * row + column] * minors[columns - bit];
                    sign = -sign;
                }
            }
            return sum;
        }

        private static long commonDivisor(long a, long b) {
            long greater = a;
            long smaller = b;
            // Euclid's rounds on longs stay below 100.
            for (int round = 0; round < GCD_ROUNDS && smaller != 0; round++) {
                long rest = greater % smaller;
                greater = smaller;
                smaller = rest;
            }
            return greater;
        }
    }

    /** Which share of each component's feed reaches the final concentrate, as two fractions. */
    private static final class Shares {
        private static final long MILLION = 1000000L;

        private long metal = 0;
        private long metalWhole = 1;
        private long gangue = 0;
        private long gangueWhole = 1;

        void compute(State s, Balance balance) {
            balance.solve(s, METAL, FINAL_CONCENTRATE);
            metal = balance.numerator;
            metalWhole = balance.denominator;
            balance.solve(s, GANGUE, FINAL_CONCENTRATE);
            gangue = balance.numerator;
            gangueWhole = balance.denominator;
        }

        /**
         * The shares for the recovery r of a cell, from those for the recoveries 0 and 1: a recovery
         * stands in one row of the equations only, so each determinant is linear in it.
         */
        void extend(Shares atZero, Shares atOne, int r) {
            metal = atZero.metal + r * (atOne.metal - atZero.metal);
            metalWhole = atZero.metalWhole + r * (atOne.metalWhole - atZero.metalWhole);
            gangue = atZero.gangue + r * (atOne.gangue - atZero.gangue);
            gangueWhole = atZero.gangueWhole + r * (atOne.gangueWhole - atZero.gangueWhole);
        }

        boolean exist() {
            return metalWhole > 0 && gangueWhole > 0;
        }

        int recoveryPerMille(State s) {
            // The feed amount cancels out, but for the rule that no feed means no recovery.
            return s.feed(METAL) > 0 && metalWhole > 0 ? (int) (PER_MILLE * metal / metalWhole) : 0;
        }

        int gradePerMille(State s) {
            long metalFlow = millionths(s.feed(METAL), metal, metalWhole);
            long gangueFlow = millionths(s.feed(GANGUE), gangue, gangueWhole);
            long both = metalFlow + gangueFlow;
            return both > 0 ? (int) (PER_MILLE * metalFlow / both) : 0;
        }

        /** The whole part and the rest apart, as a million times the flow's numerator can leave a long. */
        private static long millionths(int feed, long share, long whole) {
            if (whole <= 0) {
                return 0;
            }
            long flow = feed * share;
            return MILLION * (flow / whole) + MILLION * (flow % whole) / whole;
        }
    }

    /** Which cells can be reached from which, as a set of bits for each cell. */
    private static final class Loops {
        private final int[] reached = new int[MAX_CELLS];

        void trace(State s) {
            Arrays.fill(reached, 0);
            for (int cell = 0; cell < s.count(); cell++) {
                addLink(s, cell, s.target(cell, CONCENTRATE));
                addLink(s, cell, s.target(cell, TAILINGS));
            }
            for (int over = 0; over < s.count(); over++) {
                for (int from = 0; from < s.count(); from++) {
                    if (leads(from, over)) {
                        reached[from] |= reached[over];
                    }
                }
            }
        }

        private void addLink(State s, int from, int to) {
            if (s.has(to)) {
                reached[from] |= 1 << to;
            }
        }

        private boolean leads(int from, int to) {
            return (reached[from] & 1 << to) != 0;
        }

        boolean returnsTo(int cell) {
            return leads(cell, cell);
        }

        /** Each loop is counted at its cell with the smallest number. */
        int number(int cells) {
            int loops = 0;
            for (int cell = 0; cell < cells; cell++) {
                if (returnsTo(cell) && !sharesLoopWithEarlier(cell)) {
                    loops++;
                }
            }
            return loops;
        }

        private boolean sharesLoopWithEarlier(int cell) {
            for (int earlier = 0; earlier < cell; earlier++) {
                if (leads(cell, earlier) && leads(earlier, cell)) {
                    return true;
                }
            }
            return false;
        }
    }

    /** The last measurements, in a ring: the newest replaces the oldest. */
    private static final class Measurements {
        private static final int CAPACITY = 5;

        private final int[] kinds = new int[CAPACITY];
        private final int[] values = new int[CAPACITY];
        private int next = 0;
        private int stored = 0;

        int store(int kind, int value) {
            kinds[next] = kind;
            values[next] = value;
            next = (next + 1) % CAPACITY;
            stored = Math.min(stored + 1, CAPACITY);
            return stored;
        }

        boolean agree(int recoveryPerMille, int gradePerMille) {
            for (int i = 0; i < stored; i++) {
                if (values[i] != (kinds[i] == 0 ? recoveryPerMille : gradePerMille)) {
                    return false;
                }
            }
            return true;
        }
    }
}
