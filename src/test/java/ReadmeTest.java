import java.io.ByteArrayOutputStream;
import java.io.File;
import java.io.PrintStream;
import java.lang.reflect.Method;
import java.nio.file.Files;
import java.nio.file.Path;
import java.util.Arrays;
import java.util.Map;
import java.util.TreeMap;
import java.util.regex.Matcher;
import java.util.regex.Pattern;

/** What README.md tells of the class: its calls with their exceptions, its example, its text, its tests. */
public final class ReadmeTest {
    private static final Check CHECK = new Check();

    private static final Pattern ROW = Pattern.compile("(?m)^\\| `(\\w+)\\(([\\w, ]*)\\)` \\| [^|]+ \\|([^|]*)\\|$");
    private static final Pattern THROWN = Pattern.compile("`(\\w+Exception)`: \\w");
    private static final Pattern TEXT = Pattern.compile("`(F[0-5]\\d{6}[C\\d]*)`");

    public static void main(String[] args) throws Exception {
        String readme = Files.readString(Path.of("README.md"));
        calls(readme);
        example(readme);
        circuitText(readme);
        tests(readme);
        CHECK.end();
    }

    private static void calls(String readme) {
        CHECK.part("the calls");
        Map<String, String> told = new TreeMap<>();
        Matcher row = ROW.matcher(readme);
        while (row.find()) {
            String types = row.group(2).replaceAll(" \\w+(?=,|$)", "");
            CHECK.isTrue(row.group(1) + " has one row", told.put(row.group(1) + "(" + types + ")", thrown(row.group(3))) == null);
        }
        Map<String, String> due = new TreeMap<>();
        for (Method m : FlotationCircuit.class.getDeclaredMethods()) {
            if (m.toString().startsWith("public ")) {
                due.put(m.getName() + "(" + names(m.getParameterTypes()) + ")", names(m.getExceptionTypes()));
            }
        }
        CHECK.isTrue("the page has calls", !told.isEmpty());
        CHECK.isTrue("the rows " + told + " are as the class has it: " + due, told.equals(due));
    }

    private static String thrown(String column) {
        StringBuilder names = new StringBuilder();
        Matcher m = THROWN.matcher(column);
        while (m.find()) {
            names.append(names.length() > 0 ? ", " : "").append(m.group(1));
        }
        return names.toString();
    }

    private static String names(Class<?>[] types) {
        String[] names = new String[types.length];
        Arrays.setAll(names, i -> types[i].getSimpleName());
        return String.join(", ", names);
    }

    private static void example(String readme) throws Exception {
        CHECK.part("the example");
        String source = Files.readString(Path.of("src/example/java/Example.java"));
        CHECK.isTrue("the page shows Example.java", readme.contains("```java\n" + source + "```\n"));
        String printed = printedByExample();
        CHECK.isTrue("the page shows what Example prints: " + printed, readme.contains("```text\n" + printed + "```\n"));
    }

    private static String printedByExample() {
        PrintStream out = System.out;
        ByteArrayOutputStream printed = new ByteArrayOutputStream();
        System.setOut(new PrintStream(printed, true));
        try {
            Example.main(new String[0]);
        } finally {
            System.setOut(out);
        }
        return printed.toString().replace(System.lineSeparator(), "\n");
    }

    /** The text that the page gives must be the circuit of its example. */
    private static void circuitText(String readme) {
        CHECK.part("the circuit text");
        Matcher m = TEXT.matcher(readme);
        boolean found = m.find();
        CHECK.isTrue("the page has a circuit text", found);
        if (!found) {
            return;
        }
        FlotationCircuit x = new FlotationCircuit();
        for (char sign : m.group(1).toCharArray()) {
            x.append(sign);
        }
        CHECK.due("errorPosition()", x.errorPosition(), FlotationCircuit.NONE);
        CHECK.due("load()", x.load(), 2);
        FlotationCircuit due = new FlotationCircuit();
        due.addCell(50, 10, 1, 9);
        due.addCell(50, 10, 8, 0);
        Boundary.same("the circuit of the text", x, due);
        CHECK.due("what was alike", Boundary.CHECK.wrong(), 0);
    }

    private static void tests(String readme) {
        CHECK.part("the tests");
        CHECK.isTrue("the page tells how to run the tests", readme.contains("\n    .ci/run\n"));
        File[] files = new File("src/test/java").listFiles((folder, name) -> name.endsWith("Test.java"));
        CHECK.isTrue("there are tests", files != null && files.length > 0);
        for (File file : files) {
            String name = file.getName().replace(".java", "");
            CHECK.isTrue("the page has a row for " + name, readme.contains("\n| `" + name + "` | "));
        }
    }
}
