/** Counts and prints answers that are not as due; shared by the tests. */
final class Check {
    interface Call {
        long answer();
    }

    private int wrong = 0;
    private int checked = 0;
    private String part = "";

    void part(String name) {
        part = name;
    }

    void due(String what, long got, long want) {
        checked++;
        if (got != want) {
            fault(what + " answered " + got + ", due is " + want);
        }
    }

    void due(String what, boolean got, boolean want) {
        due(what, got ? 1L : 0L, want ? 1L : 0L);
    }

    /** The exception's class must be exactly the one that is due, not one below it. */
    void dueThrow(String what, Class<? extends RuntimeException> want, Call call) {
        checked++;
        try {
            fault(what + " answered " + call.answer() + ", due is " + want.getSimpleName());
        } catch (RuntimeException e) {
            if (e.getClass() != want) {
                fault(what + " threw " + e + ", due is " + want.getSimpleName());
            }
        }
    }

    void isTrue(String what, boolean holds) {
        checked++;
        if (!holds) {
            fault(what + " does not hold");
        }
    }

    private void fault(String line) {
        wrong++;
        if (wrong <= 50) {
            System.out.println(part + ": " + line);
        }
    }

    int wrong() {
        return wrong;
    }

    void end() {
        System.out.println(checked + " checks, " + wrong + " wrong");
        if (wrong != 0) {
            System.exit(1);
        }
    }
}
