import java.util.function.IntConsumer;

/** Compares answers with those that are due, tells each wrong one with its promise, and counts. */
final class Check {
    private static int asked = 0;
    private static int wrong = 0;
    private static String numbered = "promise";

    private Check() {
    }

    /** What the first number of each check counts, if it is not the promises. */
    static void numbers(String what) {
        numbered = what;
    }

    static void due(int promise, String what, long want, long got) {
        asked++;
        if (want != got) {
            tell(promise, what + " answered " + got + ", due is " + want);
        }
    }

    static void due(int promise, String what, boolean want, boolean got) {
        due(promise, what, want ? 1 : 0, got ? 1 : 0);
    }

    static void same(int promise, String what, String want, String got) {
        asked++;
        if (!want.equals(got)) {
            tell(promise, what + " shows " + got + ", due is " + want);
        }
    }

    /** The call refuses each of these as an argument. */
    static void refusesEach(int promise, String name, IntConsumer call, int... arguments) {
        for (int argument : arguments) {
            badArgument(promise, name + "(.. " + argument + " ..)", () -> call.accept(argument));
        }
    }

    static void fails(int promise, String what, Class<? extends RuntimeException> want, Runnable call) {
        asked++;
        try {
            call.run();
            tell(promise, what + " threw nothing, due is " + want.getSimpleName());
        } catch (RuntimeException e) {
            if (e.getClass() != want) {
                tell(promise, what + " threw " + e + ", due is " + want.getSimpleName());
            }
        }
    }

    static void badState(int promise, String what, Runnable call) {
        fails(promise, what, IllegalStateException.class, call);
    }

    static void badArgument(int promise, String what, Runnable call) {
        fails(promise, what, IllegalArgumentException.class, call);
    }

    static void unsupported(int promise, String what, Runnable call) {
        fails(promise, what, UnsupportedOperationException.class, call);
    }

    static void noSuch(int promise, String what, Runnable call) {
        fails(promise, what, java.util.NoSuchElementException.class, call);
    }

    static void finish() {
        System.out.println(asked + " answers looked at, " + wrong + " wrong");
        if (wrong > 0) {
            System.exit(1);
        }
    }

    private static void tell(int promise, String text) {
        wrong++;
        System.out.println(numbered + " " + promise + ": " + text);
    }
}
