import java.io.IOException;
import java.nio.file.Files;
import java.nio.file.Path;
import java.util.ArrayList;
import java.util.List;
import java.util.Map;
import java.util.TreeMap;

/** ../shared/DOC.md: its sentences, so that one without a test of its own is found; its face and its examples. */
final class Document {
    private static final Path FILE = Path.of("..", "shared", "DOC.md");

    private static final int LEFT_OUT = -1;
    private static final int DESCRIPTION = 0;

    /** By promise; those of 'What it is', of 'Description' and of the constants stand at 0. */
    private final Map<Integer, List<String>> sentences = new TreeMap<>();

    Document() throws IOException {
        int promise = LEFT_OUT;
        StringBuilder prose = new StringBuilder();
        for (String line : Files.readAllLines(FILE)) {
            boolean item = line.startsWith("- ");
            int section = section(line, promise);
            if (item || line.isBlank() || isTitle(line) || section != promise || line.startsWith("## ")) {
                split(prose, promise);
            }
            promise = section;
            if (!isTitle(line) && !line.matches("(#|`|----|The constants:).*")) {
                prose.append(item ? line.substring(2) : line).append(' ');
            }
        }
        split(prose, promise);
    }

    static boolean isThere() {
        return Files.isReadable(FILE);
    }

    /** The lines of the public face between the class's two braces, each without what is around it. */
    static List<String> face() throws IOException {
        List<String> face = new ArrayList<>();
        boolean inside = false;
        for (String line : Files.readAllLines(FILE)) {
            if (inside && line.equals("}")) {
                return face;
            }
            if (inside) {
                face.add(line.trim());
            }
            inside |= line.equals("public final class FlotationCircuit {");
        }
        return face;
    }

    /** The paragraph of the examples, with its lines as they are printed. */
    static String examples() throws IOException {
        StringBuilder examples = new StringBuilder();
        for (String line : Files.readAllLines(FILE)) {
            if (examples.length() > 0 && line.isBlank()) {
                break;
            }
            if (examples.length() > 0 || line.startsWith("Examples: ")) {
                examples.append(line).append('\n');
            }
        }
        return examples.toString();
    }

    private static int section(String line, int before) {
        if (line.matches("## (What it is|Description)|The constants:")) {
            return DESCRIPTION;
        }
        if (line.startsWith("## Promise ")) {
            return Integer.parseInt(line.substring(11, line.indexOf(':')));
        }
        return line.matches("(## |Examples:|The constructor and the methods follow).*") ? LEFT_OUT : before;
    }

    private static boolean isTitle(String line) {
        return line.matches("[A-Z ]+");
    }

    private void split(StringBuilder prose, int promise) {
        String text = plain(prose.toString());
        prose.setLength(0);
        if (promise == LEFT_OUT || text.isEmpty()) {
            return;
        }
        for (String sentence : text.split("(?<=\\.) (?=[A-Zu])")) {
            sentences.computeIfAbsent(promise, key -> new ArrayList<>()).add(sentence);
        }
    }

    static String plain(String text) {
        return text.replaceAll("\\s+", " ").trim();
    }

    Map<Integer, List<String>> sentences() {
        return sentences;
    }
}
