import java.math.BigInteger;
import java.util.ArrayDeque;
import java.util.ArrayList;
import java.util.Arrays;
import java.util.List;
import java.util.regex.Matcher;
import java.util.regex.Pattern;

/**
 * The document said a second time, slowly and by other means than the class: fractions of BigInteger,
 * Gauss's elimination, searches along the streams, texts by a regular expression, copies of lists.
 */
public final class Reference {
    private static final Pattern CIRCUIT = Pattern.compile("F[0-5][0-9]{6}(C[0-9]{4}[0-589]{2}){0,6}");

    /** A fraction in lowest terms. */
    record Fraction(BigInteger top, BigInteger bottom) {
        static final Fraction ZERO = of(0);

        static Fraction of(long value) {
            return new Fraction(BigInteger.valueOf(value), BigInteger.ONE);
        }

        static Fraction of(BigInteger top, BigInteger bottom) {
            BigInteger divisor = top.gcd(bottom);
            if (bottom.signum() < 0) {
                divisor = divisor.negate();
            }
            return new Fraction(top.divide(divisor), bottom.divide(divisor));
        }

        Fraction plus(Fraction o) {
            return of(top.multiply(o.bottom).add(o.top.multiply(bottom)), bottom.multiply(o.bottom));
        }

        Fraction minus(Fraction o) {
            return plus(new Fraction(o.top.negate(), o.bottom));
        }

        Fraction times(Fraction o) {
            return of(top.multiply(o.top), bottom.multiply(o.bottom));
        }

        Fraction over(Fraction o) {
            return of(top.multiply(o.bottom), bottom.multiply(o.top));
        }

        long floorTimes(long factor) {
            return top.multiply(BigInteger.valueOf(factor)).divide(bottom).longValueExact();
        }
    }

    static final class Cell {
        int[] recovery = new int[2];
        int[] to = new int[2];
        long[] content = new long[2];

        Cell copy() {
            Cell c = new Cell();
            c.recovery = recovery.clone();
            c.to = to.clone();
            c.content = content.clone();
            return c;
        }
    }

    static final class World {
        List<Cell> cells = new ArrayList<>();
        int feedCell = 0;
        int[] feed = {100, 900};
        long[][] amount = new long[2][2];

        World copy() {
            World w = new World();
            for (Cell c : cells) {
                w.cells.add(c.copy());
            }
            w.feedCell = feedCell;
            w.feed = feed.clone();
            w.amount = new long[][] {amount[0].clone(), amount[1].clone()};
            return w;
        }

        int real(int to) {
            return to < cells.size() || to == 8 ? to : 9;
        }

        int percent(int cell, int component, int stream) {
            int r = cells.get(cell).recovery[component];
            return stream == 0 ? r : 100 - r;
        }

        boolean steady(int component) {
            for (int cell = 0; cell < cells.size(); cell++) {
                if (!reachesProduct(cell, component)) {
                    return false;
                }
            }
            return true;
        }

        boolean reachesProduct(int start, int component) {
            boolean[] seen = new boolean[6];
            ArrayDeque<Integer> open = new ArrayDeque<>();
            open.add(start);
            while (!open.isEmpty()) {
                int cell = open.poll();
                if (cell >= 8) {
                    return true;
                }
                if (seen[cell]) {
                    continue;
                }
                seen[cell] = true;
                for (int stream = 0; stream < 2; stream++) {
                    if (percent(cell, component, stream) > 0) {
                        open.add(real(cells.get(cell).to[stream]));
                    }
                }
            }
            return false;
        }

        boolean steady() {
            return steady(0) && steady(1);
        }

        /** The flows into 0 to 9, by elimination in the equations of the description. */
        Fraction[] flows(int component) {
            int n = cells.size();
            Fraction[][] a = new Fraction[n][n + 1];
            for (int i = 0; i < n; i++) {
                for (int j = 0; j <= n; j++) {
                    a[i][j] = Fraction.of(i == j ? 1 : 0);
                }
                a[i][n] = Fraction.of(real(feedCell) == i ? feed[component] : 0);
            }
            for (int from = 0; from < n; from++) {
                for (int stream = 0; stream < 2; stream++) {
                    int to = real(cells.get(from).to[stream]);
                    if (to < n) {
                        a[to][from] = a[to][from].minus(share(from, component, stream));
                    }
                }
            }
            Fraction[] x = eliminate(a);
            Fraction[] flows = new Fraction[10];
            Arrays.fill(flows, Fraction.ZERO);
            System.arraycopy(x, 0, flows, 0, n);
            if (real(feedCell) == 9) {
                flows[9] = Fraction.of(feed[component]);
            }
            for (int from = 0; from < n; from++) {
                for (int stream = 0; stream < 2; stream++) {
                    int to = real(cells.get(from).to[stream]);
                    if (to >= 8) {
                        flows[to] = flows[to].plus(x[from].times(share(from, component, stream)));
                    }
                }
            }
            return flows;
        }

        Fraction share(int cell, int component, int stream) {
            return Fraction.of(BigInteger.valueOf(percent(cell, component, stream)), BigInteger.valueOf(100));
        }

        static Fraction[] eliminate(Fraction[][] a) {
            int n = a.length;
            for (int k = 0; k < n; k++) {
                int pivot = k;
                while (a[pivot][k].top().signum() == 0) {
                    pivot++;
                }
                Fraction[] row = a[pivot];
                a[pivot] = a[k];
                a[k] = row;
                for (int i = 0; i < n; i++) {
                    if (i != k && a[i][k].top().signum() != 0) {
                        Fraction factor = a[i][k].over(a[k][k]);
                        for (int j = k; j <= n; j++) {
                            a[i][j] = a[i][j].minus(factor.times(a[k][j]));
                        }
                    }
                }
            }
            Fraction[] x = new Fraction[n];
            for (int i = 0; i < n; i++) {
                x[i] = a[i][n].over(a[i][i]);
            }
            return x;
        }

        int total() {
            return feed[0] == 0 ? 0 : (int) flows(0)[8].over(Fraction.of(feed[0])).floorTimes(1000);
        }

        int purity() {
            long f = flows(0)[8].floorTimes(1000000);
            long h = flows(1)[8].floorTimes(1000000);
            return f + h == 0 ? 0 : (int) (1000 * f / (f + h));
        }

        void move() {
            long[][] arriving = new long[10][2];
            for (int component = 0; component < 2; component++) {
                arriving[real(feedCell)][component] += feed[component];
                for (Cell c : cells) {
                    long up = c.content[component] * c.recovery[component] / 100;
                    arriving[real(c.to[0])][component] += up;
                    arriving[real(c.to[1])][component] += c.content[component] - up;
                }
            }
            for (int i = 0; i < cells.size(); i++) {
                cells.get(i).content = arriving[i];
            }
            for (int component = 0; component < 2; component++) {
                amount[0][component] += arriving[8][component];
                amount[1][component] += arriving[9][component];
            }
        }

        boolean linked(int from, int to) {
            boolean[] seen = new boolean[6];
            ArrayDeque<Integer> open = new ArrayDeque<>();
            open.add(from);
            while (!open.isEmpty()) {
                Cell c = cells.get(open.poll());
                for (int next : c.to) {
                    if (next < cells.size()) {
                        if (next == to) {
                            return true;
                        }
                        if (!seen[next]) {
                            seen[next] = true;
                            open.add(next);
                        }
                    }
                }
            }
            return false;
        }
    }

    private String text = "";
    private World world = new World();
    private final ArrayDeque<World> past = new ArrayDeque<>();
    private final World[] slots = new World[2];
    private final ArrayDeque<int[]> measured = new ArrayDeque<>();

    private void cellExists(int cell) {
        if (cell < 0 || cell >= world.cells.size()) {
            throw new IndexOutOfBoundsException();
        }
    }

    private static void zeroOrOne(int index) {
        if (index < 0 || index > 1) {
            throw new IndexOutOfBoundsException();
        }
    }

    private static void argument(boolean fine) {
        if (!fine) {
            throw new IllegalArgumentException();
        }
    }

    private static void possibleNow(boolean fine) {
        if (!fine) {
            throw new IllegalStateException();
        }
    }

    private static boolean within(int value, int least, int greatest) {
        return least <= value && value <= greatest;
    }

    private static boolean place(int to) {
        return within(to, 0, 5) || within(to, 8, 9);
    }

    private void act() {
        past.addLast(world.copy());
        if (past.size() > 14) {
            past.removeFirst();
        }
    }

    public int append(int c) {
        argument(within(c, 0, 255));
        possibleNow(text.length() < 60);
        text += (char) c;
        return text.length();
    }

    public int clearText() {
        int length = text.length();
        text = "";
        return length;
    }

    public int errorPosition() {
        if (CIRCUIT.matcher(text).matches()) {
            return -9;
        }
        for (int end = 1; end <= text.length(); end++) {
            Matcher m = CIRCUIT.matcher(text.substring(0, end));
            if (!m.matches() && !m.hitEnd()) {
                return end - 1;
            }
        }
        return text.length();
    }

    public int load() {
        possibleNow(errorPosition() == -9);
        World w = new World();
        w.feedCell = Integer.parseInt(text.substring(1, 2));
        w.feed = new int[] {Integer.parseInt(text.substring(2, 5)), Integer.parseInt(text.substring(5, 8))};
        for (String cell : text.substring(8).split("C")) {
            if (!cell.isEmpty()) {
                Cell c = new Cell();
                c.recovery = new int[] {Integer.parseInt(cell.substring(0, 2)), Integer.parseInt(cell.substring(2, 4))};
                c.to = new int[] {cell.charAt(4) - '0', cell.charAt(5) - '0'};
                w.cells.add(c);
            }
        }
        world = w;
        past.clear();
        slots[0] = null;
        slots[1] = null;
        return w.cells.size();
    }

    public int cellCount() {
        return world.cells.size();
    }

    public int recovery(int cell, int component) {
        cellExists(cell);
        zeroOrOne(component);
        return world.cells.get(cell).recovery[component];
    }

    public int destination(int cell, int stream) {
        cellExists(cell);
        zeroOrOne(stream);
        return world.cells.get(cell).to[stream];
    }

    public int feedCell() {
        return world.feedCell;
    }

    public int feedAmount(int component) {
        zeroOrOne(component);
        return world.feed[component];
    }

    public int addCell(int metal, int gangue, int concentrateTo, int tailingsTo) {
        argument(within(metal, 0, 100) && within(gangue, 0, 100) && place(concentrateTo) && place(tailingsTo));
        possibleNow(world.cells.size() < 6);
        act();
        Cell c = new Cell();
        c.recovery = new int[] {metal, gangue};
        c.to = new int[] {concentrateTo, tailingsTo};
        world.cells.add(c);
        return world.cells.size() - 1;
    }

    public int removeLastCell() {
        possibleNow(!world.cells.isEmpty());
        act();
        world.cells.remove(world.cells.size() - 1);
        return world.cells.size();
    }

    public int setRecovery(int cell, int component, int r) {
        int before = recovery(cell, component);
        argument(within(r, 0, 100));
        act();
        world.cells.get(cell).recovery[component] = r;
        return before;
    }

    public int setDestination(int cell, int stream, int to) {
        int before = destination(cell, stream);
        argument(place(to));
        act();
        world.cells.get(cell).to[stream] = to;
        return before;
    }

    public int setFeed(int cell, int metal, int gangue) {
        argument(within(cell, 0, 5) && within(metal, 0, 999) && within(gangue, 0, 999));
        act();
        int before = world.feedCell;
        world.feedCell = cell;
        world.feed = new int[] {metal, gangue};
        return before;
    }

    public int step(int n) {
        argument(within(n, 1, 100));
        act();
        for (int i = 0; i < n; i++) {
            world.move();
        }
        return (int) world.amount[0][0];
    }

    public int drain() {
        act();
        int sum = 0;
        for (Cell c : world.cells) {
            sum += c.content[0] + c.content[1];
            c.content = new long[2];
        }
        world.amount = new long[2][2];
        return sum;
    }

    public int undo() {
        possibleNow(!past.isEmpty());
        world = past.removeLast();
        return past.size();
    }

    public int content(int cell, int component) {
        cellExists(cell);
        zeroOrOne(component);
        return (int) world.cells.get(cell).content[component];
    }

    public int amount(int product, int component) {
        zeroOrOne(product - 8);
        zeroOrOne(component);
        return (int) world.amount[product - 8][component];
    }

    public boolean hasSteadyState() {
        return world.steady();
    }

    private Fraction flow(int to, int component) {
        if (to != 8 && to != 9) {
            cellExists(to);
        }
        zeroOrOne(component);
        possibleNow(world.steady(component));
        return world.flows(component)[to];
    }

    public long flowNumerator(int to, int component) {
        return flow(to, component).top().longValueExact();
    }

    public long flowDenominator(int to, int component) {
        return flow(to, component).bottom().longValueExact();
    }

    public int totalRecovery() {
        possibleNow(world.steady());
        return world.total();
    }

    public int grade() {
        possibleNow(world.steady());
        return world.purity();
    }

    public boolean isInLoop(int cell) {
        cellExists(cell);
        return world.linked(cell, cell);
    }

    public int loopCount() {
        int count = 0;
        for (int cell = 0; cell < world.cells.size(); cell++) {
            boolean first = world.linked(cell, cell);
            for (int other = 0; other < cell; other++) {
                first &= !(world.linked(cell, other) && world.linked(other, cell));
            }
            count += first ? 1 : 0;
        }
        return count;
    }

    public int bestImprovement() {
        List<World> worlds = new ArrayList<>();
        for (int cell = 0; cell < world.cells.size(); cell++) {
            World w = world.copy();
            int[] r = w.cells.get(cell).recovery;
            r[0] = r[0] > 95 ? 100 : r[0] + 5;
            worlds.add(w);
        }
        return best(worlds);
    }

    public int bestShutdown() {
        List<World> worlds = new ArrayList<>();
        for (int cell = 0; cell < world.cells.size(); cell++) {
            World w = world.copy();
            w.cells.get(cell).recovery = new int[2];
            worlds.add(w);
        }
        return best(worlds);
    }

    private static int best(List<World> worlds) {
        int best = -9;
        for (int i = 0; i < worlds.size(); i++) {
            if (worlds.get(i).steady() && (best < 0 || worlds.get(i).total() > worlds.get(best).total())) {
                best = i;
            }
        }
        return best;
    }

    public int recoveryFor(int cell, int p) {
        cellExists(cell);
        argument(within(p, 0, 1000));
        World w = world.copy();
        for (int r = 0; r <= 100; r++) {
            w.cells.get(cell).recovery[0] = r;
            if (w.steady() && w.total() >= p) {
                return r;
            }
        }
        return -9;
    }

    public int measure(int what, int p) {
        argument(within(what, 0, 1) && within(p, 0, 1000));
        measured.addLast(new int[] {what, p});
        if (measured.size() > 5) {
            measured.removeFirst();
        }
        return measured.size();
    }

    public int possibleRecoveries(int cell, int component) {
        cellExists(cell);
        zeroOrOne(component);
        World w = world.copy();
        int count = 0;
        for (int r = 0; r <= 100; r++) {
            w.cells.get(cell).recovery[component] = r;
            boolean possible = w.steady();
            for (int[] m : measured) {
                possible = possible && (m[0] == 0 ? w.total() : w.purity()) == m[1];
            }
            count += possible ? 1 : 0;
        }
        return count;
    }

    public int disturb(long seed, int m) {
        argument(within(m, 1, 100));
        World w = world.copy();
        long x = seed;
        for (int i = 0; i < m; i++) {
            x = x * 6364136223846793005L + 1442695040888963407L;
            int r = (int) (x >>> 33);
            if (!w.cells.isEmpty() && r % 3 == 0) {
                w.cells.get(r / 3 % w.cells.size()).recovery[r / 64 % 2] = r / 128 % 101;
            }
            w.move();
        }
        return (int) w.amount[0][0];
    }

    public int save(int slot) {
        zeroOrOne(slot);
        slots[slot] = world.copy();
        return world.cells.size();
    }

    public int restore(int slot) {
        zeroOrOne(slot);
        possibleNow(slots[slot] != null);
        world = slots[slot].copy();
        past.clear();
        return world.cells.size();
    }
}
