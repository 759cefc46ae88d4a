/** Counts the answers of one test program that are not as they should be. */
final class Check {
    interface Call {
        void run();
    }

    private static String part = "";
    private static int asked = 0;
    private static int wrong = 0;

    private Check() {
    }

    /** Names what the next answers are about. */
    static void part(String name) {
        part = name;
    }

    static void same(String what, long got, long want) {
        asked++;
        if (got != want) {
            say(what + " answered " + got + ", due is " + want);
        }
    }

    static void same(String what, boolean got, boolean want) {
        asked++;
        if (got != want) {
            say(what + " answered " + got + ", due is " + want);
        }
    }

    static void sameDouble(String what, double got, double want) {
        asked++;
        if (Double.compare(got, want) != 0) {
            say(what + " answered " + got + ", due is " + want);
        }
    }

    static void holds(String what, boolean isSo) {
        asked++;
        if (!isSo) {
            say(what);
        }
    }

    /** The class of what a call throws must be just this one. */
    static void thrown(String what, Class<? extends RuntimeException> want, Call call) {
        asked++;
        try {
            call.run();
        } catch (RuntimeException e) {
            if (e.getClass() != want) {
                say(what + " threw " + e.getClass().getName() + ", due is " + want.getName());
            }
            return;
        }
        say(what + " threw nothing, due is " + want.getName());
    }

    static void index(String what, Call call) {
        thrown(what, IndexOutOfBoundsException.class, call);
    }

    static void argument(String what, Call call) {
        thrown(what, IllegalArgumentException.class, call);
    }

    static void state(String what, Call call) {
        thrown(what, IllegalStateException.class, call);
    }

    /** Ends the program, with exit code 1 if there was a wrong answer. */
    static void end() {
        System.out.println(asked + " answers, " + wrong + " wrong");
        System.exit(wrong == 0 && asked > 0 ? 0 : 1);
    }

    private static void say(String text) {
        wrong++;
        if (wrong <= 40) {
            System.out.println(part + ": " + text);
        }
    }
}
