import java.lang.reflect.InvocationTargetException;
import java.lang.reflect.Method;
import java.util.Map;
import java.util.TreeMap;
import java.util.function.LongSupplier;

/** Compares answers with those that are due, and ends the program with 1 if one was not. */
final class Due {
    private int wrong = 0;
    private int compared = 0;

    void same(String what, long want, long got) {
        compared++;
        if (got != want) {
            complain(what, Long.toString(want), Long.toString(got));
        }
    }

    void same(String what, boolean want, boolean got) {
        same(what, want ? 1 : 0, got ? 1 : 0);
    }

    void same(String what, String want, String got) {
        compared++;
        if (!got.equals(want)) {
            complain(what, want, got);
        }
    }

    /** The call must throw exactly this class, not one below it, as the machine's own would be. */
    void thrown(String what, Class<? extends RuntimeException> want, LongSupplier call) {
        compared++;
        try {
            complain(what, want.getSimpleName(), Long.toString(call.getAsLong()));
        } catch (RuntimeException e) {
            if (e.getClass() != want) {
                complain(what, want.getSimpleName(), e.toString());
            }
        }
    }

    void noIndex(String what, LongSupplier call) {
        thrown(what, IndexOutOfBoundsException.class, call);
    }

    void noArgument(String what, LongSupplier call) {
        thrown(what, IllegalArgumentException.class, call);
    }

    void noState(String what, LongSupplier call) {
        thrown(what, IllegalStateException.class, call);
    }

    /** Runs each method whose name begins with promise, and finishes. One that throws spoils no other. */
    void runPromises(Class<?> tests) {
        Map<String, Method> methods = new TreeMap<>();
        for (Method method : tests.getDeclaredMethods()) {
            if (method.getName().startsWith("promise")) {
                methods.put(method.getName(), method);
            }
        }
        same("there are tests in " + tests.getName(), true, methods.size() > 0);
        for (Method method : methods.values()) {
            run(method);
        }
        finish(tests.getName() + ": " + methods.size() + " tests");
    }

    private void run(Method method) {
        int before = compared;
        try {
            method.invoke(null);
        } catch (InvocationTargetException e) {
            complain(method.getName(), "nothing thrown", String.valueOf(e.getCause()));
        } catch (IllegalAccessException e) {
            complain(method.getName(), "a test that can be run", e.toString());
        }
        if (compared == before) {
            complain(method.getName(), "an answer compared", "none");
        }
    }

    void finish() {
        finish(new Throwable().getStackTrace()[1].getClassName());
    }

    private void finish(String name) {
        System.out.println(name + ": " + compared + " answers compared, " + wrong + " wrong");
        if (wrong > 0) {
            System.exit(1);
        }
    }

    private void complain(String what, String want, String got) {
        wrong++;
        if (wrong <= 40) {
            String where = "";
            for (StackTraceElement frame : new Throwable().getStackTrace()) {
                if (!frame.getClassName().equals("Due")) {
                    where = frame.getFileName() + ":" + frame.getLineNumber() + " " + frame.getMethodName();
                    break;
                }
            }
            System.out.println(where + " " + what + ": due is " + want + ", answered " + got);
        }
    }
}
