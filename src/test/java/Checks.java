/** Compares answers with those that are due, and ends a test program with what it found. */
final class Checks {
    /** A call of the face. */
    interface Call {
        Object answer();
    }

    static final String INDEX = "throws.IndexOutOfBoundsException";
    static final String ARGUMENT = "throws.IllegalArgumentException";
    static final String STATE = "throws.IllegalStateException";

    private int made;
    private int wrong;

    /** The answer as a text, or the name of the very class that the call throws: no class below it counts. */
    static String outcome(Call call) {
        try {
            return String.valueOf(call.answer());
        } catch (RuntimeException thrown) {
            String name = thrown.getClass().getName();
            return "throws." + (name.startsWith("java.lang.") ? name.substring("java.lang.".length()) : name);
        }
    }

    void due(String what, Object want, Call call) {
        same(what, String.valueOf(want), outcome(call));
    }

    void same(String what, String want, String got) {
        made++;
        if (!want.equals(got)) {
            wrong++;
            System.out.println(what + " answered " + got + ", due is " + want);
        }
    }

    void end(String program) {
        System.out.println(program + ": " + made + " checks, " + wrong + " wrong");
        if (wrong != 0 || made == 0) {
            System.exit(1);
        }
    }
}
