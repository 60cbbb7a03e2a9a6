import java.lang.reflect.Field;
import java.lang.reflect.Method;
import java.lang.reflect.Modifier;
import java.nio.file.Files;
import java.nio.file.Path;
import java.util.Arrays;
import java.util.List;
import java.util.Set;
import java.util.TreeSet;

/** The public face, and the rules of LANGUAGE.md that a look at the source can tell. */
public final class FaceTest {
    private static final Check CHECK = new Check();

    private static final String[] METHODS = {
        "int append(int)", "int clearText()", "int errorPosition()", "int load()", "int cellCount()",
        "int recovery(int,int)", "int destination(int,int)", "int feedCell()", "int feedAmount(int)",
        "int addCell(int,int,int,int)", "int removeLastCell()", "int setRecovery(int,int,int)",
        "int setDestination(int,int,int)", "int setFeed(int,int,int)", "int step(int)", "int drain()",
        "int undo()", "int content(int,int)", "int amount(int,int)", "boolean hasSteadyState()",
        "long flowNumerator(int,int)", "long flowDenominator(int,int)", "int totalRecovery()", "int grade()",
        "boolean isInLoop(int)", "int loopCount()", "int bestImprovement()", "int bestShutdown()",
        "int recoveryFor(int,int)", "int measure(int,int)", "int possibleRecoveries(int,int)",
        "int disturb(long,int)", "int save(int)", "int restore(int)",
    };

    private static final String[] FORBIDDEN = {
        "->", "::", "finally", "synchronized", "assert", "catch", "System.out", "Exact(", "protected", "import java.util.*",
        "Random", "nanoTime", "currentTimeMillis", "Thread", "\" +", "+ \"",
    };

    public static void main(String[] args) throws Exception {
        constants();
        members();
        documentsFace();
        source();
        CHECK.end();
    }

    private static void constants() {
        CHECK.part("constants");
        CHECK.due("NONE", FlotationCircuit.NONE, -9);
        CHECK.due("FINAL_CONCENTRATE", FlotationCircuit.FINAL_CONCENTRATE, 8);
        CHECK.due("FINAL_TAILINGS", FlotationCircuit.FINAL_TAILINGS, 9);
    }

    private static void members() {
        CHECK.part("members");
        int modifiers = FlotationCircuit.class.getModifiers();
        CHECK.isTrue("the class is public and final", Modifier.isPublic(modifiers) && Modifier.isFinal(modifiers));
        Set<String> found = new TreeSet<>();
        Set<String> names = new TreeSet<>();
        for (Method m : FlotationCircuit.class.getDeclaredMethods()) {
            if (!Modifier.isPrivate(m.getModifiers())) {
                String types = Arrays.toString(m.getParameterTypes());
                found.add(m.getReturnType() + " " + m.getName()
                        + "(" + types.substring(1, types.length() - 1).replace(" ", "") + ")");
                names.add(m.getName());
            }
        }
        CHECK.isTrue("the methods are those of the document: " + found,
                found.equals(new TreeSet<>(Arrays.asList(METHODS))));
        privateNames(FlotationCircuit.class, names);
        for (Field f : FlotationCircuit.class.getDeclaredFields()) {
            boolean constant = Arrays.asList("NONE", "FINAL_CONCENTRATE", "FINAL_TAILINGS").contains(f.getName());
            CHECK.isTrue("the field " + f.getName() + " is private or one of the constants",
                    constant == Modifier.isPublic(f.getModifiers()) && (constant || Modifier.isPrivate(f.getModifiers())));
        }
    }

    private static void privateNames(Class<?> outer, Set<String> names) {
        for (Method m : outer.getDeclaredMethods()) {
            CHECK.isTrue("the private method " + m.getName() + " bears a name of its own",
                    Modifier.isPublic(m.getModifiers()) || !names.contains(m.getName()));
        }
        for (Class<?> inside : outer.getDeclaredClasses()) {
            for (Method m : inside.getDeclaredMethods()) {
                CHECK.isTrue("the method " + m.getName() + " of " + inside.getSimpleName() + " bears a name of its own",
                        !names.contains(m.getName()));
            }
        }
    }

    private static String code() throws Exception {
        String source = Files.readString(Path.of("src/main/java/FlotationCircuit.java"));
        return source.replaceAll("(?s)/\\*.*?\\*/", "").replaceAll("//[^\n]*", "");
    }

    /** Types, names of parameters and exceptions as the document prints them, and nothing public beside them. */
    private static void documentsFace() throws Exception {
        CHECK.part("the document's face");
        if (!Document.isThere()) {
            System.out.println("the document is not here: its face is not compared");
            return;
        }
        String code = Document.plain(code());
        List<String> face = Document.face();
        for (String line : face) {
            String head = line.startsWith("public static final") ? line : line.replaceAll(";$", " {");
            CHECK.isTrue("the source has " + line, code.contains(" " + head));
        }
        CHECK.due("lines of the face", face.size(), METHODS.length + 3);
        CHECK.due("public members", code.split("\\bpublic\\b", -1).length - 2, face.size());
    }

    private static void source() throws Exception {
        CHECK.part("source");
        String code = code();
        for (String word : FORBIDDEN) {
            CHECK.isTrue("the source does without " + word, !code.contains(word));
        }
        for (String line : code.split("\n")) {
            CHECK.isTrue("only Arrays is imported: " + line,
                    !line.startsWith("import") || line.equals("import java.util.Arrays;"));
        }
    }
}
