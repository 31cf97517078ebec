import java.util.Objects;

/** Counts answers that are not the due ones. */
final class Checks {
    interface Call { Object answer(); }

    private int wrong = 0;
    private String where = "";

    void at(String place) {
        where = place;
    }

    void due(Object want, Object got) {
        if (!Objects.equals(number(want), number(got))) {
            wrong++;
            StackTraceElement line = new Throwable().getStackTrace()[1];
            System.out.println(where + ", line " + line.getLineNumber() + ": answered " + got + ", due is " + want);
        }
    }

    void dueThrow(Class<? extends RuntimeException> want, Call call) {
        Object got;
        try {
            got = call.answer();
        } catch (RuntimeException e) {
            got = isThrownByProgram(e) ? e.getClass() : "the machine's " + e;
        }
        if (got != want) {
            wrong++;
            StackTraceElement line = new Throwable().getStackTrace()[1];
            System.out.println(where + ", line " + line.getLineNumber() + ": answered " + got + ", due is " + want);
        }
    }

    /** Whether the program threw it itself, and not the library or the machine for it. */
    static boolean isThrownByProgram(RuntimeException e) {
        StackTraceElement[] rows = e.getStackTrace();
        return rows.length > 0 && rows[0].getClassName().startsWith("Layertreaty");
    }

    void end(String name) {
        System.out.println(wrong == 0 ? name + ": all as due" : name + ": " + wrong + " not as due");
        System.exit(wrong == 0 ? 0 : 1);
    }

    private static Object number(Object x) {
        return x instanceof Integer ? Long.valueOf((Integer) x) : x;
    }
}
