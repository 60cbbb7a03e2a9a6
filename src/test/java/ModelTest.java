import java.lang.reflect.InvocationTargetException;
import java.lang.reflect.Method;
import java.util.ArrayList;
import java.util.HashMap;
import java.util.List;
import java.util.Map;
import java.util.Random;

/**
 * Long runs of calls with right and wrong arguments, each made on the class and on the Reference, which
 * must answer alike or throw alike; after a call that throws, all that can be read must be as before.
 *
 * Arguments: how many runs, and the seed of the first one.
 */
public final class ModelTest {
    private static final int CALLS = 512;
    private static final int[] SPECIAL = {0, 0, 1, 2, 5, 50, 94, 95, 96, 98, 99, 100, 100};

    private static final Check CHECK = new Check();
    private static final Map<String, Method> OF_CLASS = methods(FlotationCircuit.class);
    private static final Map<String, Method> OF_REFERENCE = methods(Reference.class);

    private FlotationCircuit circuit = new FlotationCircuit();
    private Reference reference = new Reference();
    private final Random random;
    private final boolean mostlyRight;
    private int calls = 0;

    private ModelTest(long seed) {
        random = new Random(seed);
        mostlyRight = random.nextInt(4) != 0;
    }

    public static void main(String[] args) throws Exception {
        int runs = args.length > 0 ? Integer.parseInt(args[0]) : 120;
        long first = args.length > 1 ? Long.parseLong(args[1]) : 1;
        for (long seed = first; seed < first + runs && CHECK.wrong() < 20; seed++) {
            CHECK.part("run " + seed);
            ModelTest test = new ModelTest(seed);
            if (seed % 2 == 0) {
                test.run();
            } else {
                test.runOfQuestions();
            }
        }
        CHECK.end();
    }

    private static Map<String, Method> methods(Class<?> of) {
        Map<String, Method> byName = new HashMap<>();
        for (Method m : of.getMethods()) {
            byName.put(m.getName(), m);
        }
        return byName;
    }

    private void run() throws Exception {
        if (random.nextBoolean()) {
            buildCells();
        } else {
            writeText(random.nextInt(7));
            call("load");
        }
        while (calls < CALLS) {
            anyCall();
        }
    }

    /** Circuits in which much flows everywhere, and all questions about each of them. */
    private void runOfQuestions() throws Exception {
        int cells = 3 + random.nextInt(4);
        for (int i = 0; i < cells; i++) {
            call("addCell", middling(), middling(), place(), place());
        }
        while (calls < CALLS) {
            call("setFeed", random.nextInt(Math.max(1, reference.cellCount())), 1 + random.nextInt(999), random.nextInt(1000));
            call("setRecovery", cell(), half(), middling());
            call("setDestination", cell(), half(), place());
            allQuestions();
        }
    }

    private int middling() {
        return random.nextInt(4) == 0 ? SPECIAL[random.nextInt(SPECIAL.length)] : random.nextInt(101);
    }

    private void allQuestions() throws Exception {
        for (int component = 0; component < 2; component++) {
            for (int to = 0; to < 10; to++) {
                call("flowNumerator", to, component);
                call("flowDenominator", to, component);
            }
        }
        for (String name : new String[] {"hasSteadyState", "totalRecovery", "grade", "loopCount", "bestImprovement", "bestShutdown"}) {
            call(name);
        }
        int total = reference.hasSteadyState() ? reference.totalRecovery() : random.nextInt(1001);
        for (int cell = 0; cell < reference.cellCount(); cell++) {
            call("isInLoop", cell);
            call("recoveryFor", cell, Math.max(0, Math.min(1000, total + random.nextInt(41) - 20)));
        }
        int measurements = random.nextInt(3);
        for (int i = 0; i < measurements; i++) {
            measureSomething();
        }
    }

    private void buildCells() throws Exception {
        int cells = random.nextInt(8);
        for (int i = 0; i < cells; i++) {
            call("addCell", percent(), percent(), place(), place());
        }
    }

    private void anyCall() throws Exception {
        int kind = random.nextInt(100);
        if (kind < 45) {
            action();
        } else if (kind < 70) {
            question();
        } else if (kind < 73) {
            call("recoveryFor", cell(), random.nextInt(8) == 0 ? wrongOr(1000) : random.nextInt(1001));
        } else if (kind < 75) {
            call("possibleRecoveries", cell(), half());
        } else if (kind < 80) {
            measureSomething();
        } else if (kind < 84) {
            call("disturb", random.nextBoolean() ? random.nextLong() : (long) random.nextInt(5), steps());
        } else if (kind < 90) {
            call(random.nextInt(3) == 0 ? "restore" : "save", half());
        } else if (kind < 93) {
            textCalls();
        } else {
            readAll();
        }
    }

    private void action() throws Exception {
        switch (random.nextInt(8)) {
            case 0: call("addCell", percent(), percent(), place(), place()); break;
            case 1: call("removeLastCell"); break;
            case 2: call("setRecovery", cell(), half(), percent()); break;
            case 3: call("setDestination", cell(), half(), place()); break;
            case 4: call("setFeed", wrongOr(5), wrongOr(999), wrongOr(999)); break;
            case 5: call("step", steps()); break;
            case 6: call(random.nextInt(3) == 0 ? "drain" : "step", steps()); break;
            default: call("undo"); break;
        }
    }

    private void question() throws Exception {
        switch (random.nextInt(8)) {
            case 0: call("hasSteadyState"); break;
            case 1: call("totalRecovery"); break;
            case 2: call("grade"); break;
            case 3: call("loopCount"); call("isInLoop", cell()); break;
            case 4: call("bestImprovement"); break;
            case 5: call("bestShutdown"); break;
            case 6: flow(); break;
            default: flow(); call("feedAmount", half()); break;
        }
    }

    private void flow() throws Exception {
        int to = random.nextInt(3) == 0 ? 8 + random.nextInt(2) : cell();
        int component = half();
        call("flowNumerator", to, component);
        call("flowDenominator", to, component);
    }

    /** A measurement that is true now leaves more values possible than one out of the air. */
    private void measureSomething() throws Exception {
        int what = half();
        int p = random.nextInt(20) == 0 ? wrongOr(1000) : random.nextInt(1001);
        if ((what == 0 || what == 1) && reference.hasSteadyState() && random.nextInt(10) != 0) {
            p = what == 0 ? reference.totalRecovery() : reference.grade();
        }
        call("measure", what, p);
        call("possibleRecoveries", cell(), half());
    }

    private void textCalls() throws Exception {
        writeText(random.nextInt(8));
        if (random.nextInt(2) == 0) {
            spoil();
        }
        call("errorPosition");
        call("load");
    }

    private void writeText(int cells) throws Exception {
        call("clearText");
        StringBuilder text = new StringBuilder();
        text.append('F').append(random.nextInt(6)).append(String.format("%06d", random.nextInt(1000000)));
        for (int i = 0; i < cells; i++) {
            text.append('C').append(String.format("%02d%02d", percentBelow100(), percentBelow100()));
            text.append("01234589".charAt(random.nextInt(8))).append("01234589".charAt(random.nextInt(8)));
        }
        int broken = random.nextInt(3) == 0 ? random.nextInt(text.length()) : -1;
        for (int i = 0; i < text.length(); i++) {
            int sign = text.charAt(i);
            if (i == broken) {
                sign = random.nextBoolean() ? wrongOr(255) : "0567F C89/:c".charAt(random.nextInt(12));
            }
            call("append", sign);
        }
    }

    private void spoil() throws Exception {
        int more = random.nextInt(14);
        for (int i = 0; i < more; i++) {
            call("append", (int) "C0089F67".charAt(random.nextInt(8)));
        }
    }

    private int percentBelow100() {
        return Math.min(99, SPECIAL[random.nextInt(SPECIAL.length)]);
    }

    private boolean wrong() {
        return random.nextInt(mostlyRight ? 60 : 8) == 0;
    }

    private int wrongOr(int greatest) {
        if (wrong()) {
            int[] values = {-1, greatest + 1, Integer.MIN_VALUE, Integer.MAX_VALUE, greatest + 2, -9};
            return values[random.nextInt(values.length)];
        }
        return random.nextInt(4) == 0 ? random.nextInt(2) * greatest : random.nextInt(greatest + 1);
    }

    private int percent() {
        return wrong() ? wrongOr(100) : random.nextInt(2) == 0 ? SPECIAL[random.nextInt(SPECIAL.length)] : wrongOr(100);
    }

    private int place() {
        if (wrong()) {
            return new int[] {-1, 6, 7, 10, -9, Integer.MAX_VALUE, Integer.MIN_VALUE}[random.nextInt(7)];
        }
        return random.nextInt(3) == 0 ? 8 + random.nextInt(2) : random.nextInt(6);
    }

    private int cell() {
        if (wrong() || reference.cellCount() == 0) {
            return new int[] {-1, reference.cellCount(), 5, 6, 7, 10, Integer.MAX_VALUE}[random.nextInt(7)];
        }
        return random.nextInt(reference.cellCount());
    }

    private int half() {
        return wrong() ? new int[] {-1, 2, 8, Integer.MIN_VALUE}[random.nextInt(4)] : random.nextInt(2);
    }

    private int steps() {
        return random.nextInt(8) == 0 ? wrongOr(100) : random.nextInt(4) == 0 ? 100 : 1 + random.nextInt(20);
    }

    private void call(String name, Object... given) throws Exception {
        if (calls >= CALLS) {
            return;
        }
        calls++;
        Method method = OF_CLASS.get(name);
        Object[] args = java.util.Arrays.copyOf(given, method.getParameterCount());
        List<Object> before = readable(circuit, OF_CLASS);
        Object want = answer(OF_REFERENCE.get(name), reference, args);
        Object got = answer(method, circuit, args);
        String what = "call " + calls + " " + name + java.util.Arrays.toString(args) + " answered " + got + ", due is " + want;
        CHECK.isTrue(what, got.equals(want));
        List<Object> after = readable(circuit, OF_CLASS);
        CHECK.isTrue(what + "; the state then", after.equals(readable(reference, OF_REFERENCE)));
        CHECK.isTrue(what + "; a call that throws changes nothing", !(got instanceof Class) || after.equals(before));
    }

    private static Object answer(Method method, Object on, Object[] args) throws Exception {
        try {
            return method.invoke(on, args);
        } catch (InvocationTargetException e) {
            return e.getCause().getClass();
        }
    }

    private static List<Object> readable(Object on, Map<String, Method> methods) throws Exception {
        List<Object> all = new ArrayList<>();
        int cells = (Integer) methods.get("cellCount").invoke(on);
        all.add(cells);
        all.add(methods.get("feedCell").invoke(on));
        all.add(methods.get("errorPosition").invoke(on));
        for (int half = 0; half < 2; half++) {
            all.add(methods.get("feedAmount").invoke(on, half));
            all.add(methods.get("amount").invoke(on, 8, half));
            all.add(methods.get("amount").invoke(on, 9, half));
            for (int cell = 0; cell < cells; cell++) {
                all.add(methods.get("recovery").invoke(on, cell, half));
                all.add(methods.get("destination").invoke(on, cell, half));
                all.add(methods.get("content").invoke(on, cell, half));
            }
        }
        return all;
    }

    /** Getters with wrong numbers too; the rest of the readable state is compared at each call. */
    private void readAll() throws Exception {
        int cell = cell();
        int half = half();
        call("recovery", cell, half);
        call("destination", cell, half);
        call("content", cell, half);
        call("amount", wrong() ? cell : 8 + random.nextInt(2), half);
        call("feedAmount", half);
        call("isInLoop", cell);
        call("cellCount");
        call("feedCell");
    }
}
