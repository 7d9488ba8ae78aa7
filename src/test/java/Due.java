import java.util.function.LongSupplier;

/** Compares answers with those that are due, and ends the program with 1 if one was not. */
final class Due {
    private int wrong = 0;
    private int compared = 0;

    void same(String what, long want, long got) {
        compared++;
        if (got != want) {
            complain(what, Long.toString(want), Long.toString(got));
        }
    }

    void same(String what, boolean want, boolean got) {
        same(what, want ? 1 : 0, got ? 1 : 0);
    }

    void same(String what, String want, String got) {
        compared++;
        if (!got.equals(want)) {
            complain(what, want, got);
        }
    }

    /** The call must throw exactly this class, not one below it, as the machine's own would be. */
    void thrown(String what, Class<? extends RuntimeException> want, LongSupplier call) {
        compared++;
        try {
            complain(what, want.getSimpleName(), Long.toString(call.getAsLong()));
        } catch (RuntimeException e) {
            if (e.getClass() != want) {
                complain(what, want.getSimpleName(), e.toString());
            }
        }
    }

    void noIndex(String what, LongSupplier call) {
        thrown(what, IndexOutOfBoundsException.class, call);
    }

    void noArgument(String what, LongSupplier call) {
        thrown(what, IllegalArgumentException.class, call);
    }

    void noState(String what, LongSupplier call) {
        thrown(what, IllegalStateException.class, call);
    }

    void finish() {
        String name = new Throwable().getStackTrace()[1].getClassName();
        System.out.println(name + ": " + compared + " answers compared, " + wrong + " wrong");
        if (wrong > 0) {
            System.exit(1);
        }
    }

    private void complain(String what, String want, String got) {
        wrong++;
        if (wrong <= 40) {
            String where = "";
            for (StackTraceElement frame : new Throwable().getStackTrace()) {
                if (!frame.getClassName().equals("Due")) {
                    where = frame.getFileName() + ":" + frame.getLineNumber();
                    break;
                }
            }
            System.out.println(where + " " + what + ": due is " + want + ", answered " + got);
        }
    }
}
