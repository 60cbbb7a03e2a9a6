import java.lang.reflect.InvocationTargetException;
import java.lang.reflect.Method;
import java.util.ArrayList;
import java.util.List;
import java.util.regex.Matcher;
import java.util.regex.Pattern;

/** A call as the document prints it, with its answer behind it: "name(1, 2) = 3" or "name() = throws X". */
record PrintedCall(String printed, String name, List<Integer> numbers, String due) {
    private static final Pattern FORM = Pattern.compile("(\\w+)\\(([-\\d, ]*)\\) = (throws \\w+|-?\\d+|true|false)");

    /** All calls in a text, in their order. */
    static List<PrintedCall> in(String text) {
        List<PrintedCall> calls = new ArrayList<>();
        Matcher m = FORM.matcher(text);
        while (m.find()) {
            List<Integer> numbers = new ArrayList<>();
            for (String number : m.group(2).split(", ")) {
                if (!number.isEmpty()) {
                    numbers.add(Integer.parseInt(number));
                }
            }
            calls.add(new PrintedCall(m.group(), m.group(1), numbers, m.group(3)));
        }
        return calls;
    }

    /** The answer of the call, in the form in which the document prints it. */
    String answerOf(FlotationCircuit x) throws IllegalAccessException {
        Method method = method();
        try {
            return String.valueOf(method.invoke(x, numbers.toArray()));
        } catch (InvocationTargetException e) {
            return "throws " + e.getCause().getClass().getSimpleName();
        }
    }

    private Method method() {
        for (Method m : FlotationCircuit.class.getMethods()) {
            if (m.getName().equals(name) && m.getParameterCount() == numbers.size()) {
                return m;
            }
        }
        throw new IllegalStateException("no method for " + printed);
    }
}
