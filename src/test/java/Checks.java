import java.lang.reflect.InvocationTargetException;
import java.lang.reflect.Method;
import java.lang.reflect.Modifier;
import java.util.Comparator;
import java.util.Objects;
import java.util.stream.Stream;

/** Counts answers that are not the due ones. */
final class Checks {
    interface Call { Object answer(); }

    private int wrong = 0;
    private int ran = 0;
    private String where = "";

    void at(String place) {
        where = place;
    }

    void due(Object want, Object got) {
        if (!Objects.equals(number(want), number(got))) {
            wrong++;
            StackTraceElement line = new Throwable().getStackTrace()[1];
            System.out.println(where + ", line " + line.getLineNumber() + ": answered " + got + ", due is " + want);
        }
    }

    void dueThrow(Class<? extends RuntimeException> want, Call call) {
        Object got;
        try {
            got = call.answer();
        } catch (RuntimeException e) {
            got = isThrownByProgram(e) ? e.getClass() : "the machine's " + e;
        }
        if (got != want) {
            wrong++;
            StackTraceElement line = new Throwable().getStackTrace()[1];
            System.out.println(where + ", line " + line.getLineNumber() + ": answered " + got + ", due is " + want);
        }
    }

    void dueNoThrow(Call call) {
        try {
            call.answer();
        } catch (RuntimeException e) {
            wrong++;
            StackTraceElement line = new Throwable().getStackTrace()[1];
            System.out.println(where + ", line " + line.getLineNumber() + ": threw " + e.getClass() + ", due is an answer");
        }
    }

    /** Runs every test of a class: its static methods that take and return nothing. One that throws is not as due. */
    void runAll(Class<?> tests) {
        Stream.of(tests.getDeclaredMethods()).filter(Checks::isTest).sorted(Comparator.comparing(Method::getName)).forEach(this::run);
        end(tests.getName());
    }

    private static boolean isTest(Method m) {
        return Modifier.isStatic(m.getModifiers()) && m.getParameterCount() == 0 && m.getReturnType() == void.class && !m.isSynthetic();
    }

    private void run(Method test) {
        where = test.getName();
        ran++;
        try {
            test.setAccessible(true);
            test.invoke(null);
        } catch (InvocationTargetException e) {
            wrong++;
            StackTraceElement[] rows = e.getCause().getStackTrace();
            System.out.println(where + ": threw " + e.getCause() + (rows.length > 0 ? " " + rows[0] : ""));
        } catch (IllegalAccessException e) {
            wrong++;
            System.out.println(where + ": can't be called");
        }
    }

    /** Whether the program threw it itself, and not the library or the machine for it. */
    static boolean isThrownByProgram(RuntimeException e) {
        StackTraceElement[] rows = e.getStackTrace();
        return rows.length > 0 && rows[0].getClassName().startsWith("Layertreaty");
    }

    void end(String name) {
        String many = ran == 0 ? "" : " (" + ran + " tests)";
        System.out.println(name + ": " + (wrong == 0 ? "all as due" : wrong + " not as due") + many);
        System.exit(wrong == 0 ? 0 : 1);
    }

    private static Object number(Object x) {
        return x instanceof Integer ? Long.valueOf((Integer) x) : x;
    }
}
