/** Counts what was checked in one test program, and tells what was not as due. */
final class Checks {
    interface Call {
        Object make();
    }

    private int good = 0;
    private int wrong = 0;

    void due(String what, Object got, Object want) {
        if (want.equals(got)) {
            good++;
        } else {
            wrong++;
            System.out.println(what + " answered " + got + ", due is " + want);
        }
    }

    /** The answer of a call, or the name of what it throws. */
    static Object answer(Call call) {
        try {
            return call.make();
        } catch (RuntimeException e) {
            return "throws." + e.getClass().getSimpleName();
        }
    }

    void dueCall(String what, Call call, Object want) {
        due(what, answer(call), want);
    }

    /** A case of its own: what it throws unasked is told, and the next case is tried. */
    void test(String name, Runnable body) {
        try {
            body.run();
        } catch (RuntimeException e) {
            wrong++;
            System.out.println(name + " threw " + e);
        }
    }

    void outOfBounds(String what, Call call) {
        dueCall(what, call, "throws.IndexOutOfBoundsException");
    }

    void illegalState(String what, Call call) {
        dueCall(what, call, "throws.IllegalStateException");
    }

    void illegalArgument(String what, Call call) {
        dueCall(what, call, "throws.IllegalArgumentException");
    }

    void end(String program) {
        System.out.println(program + ": " + good + " answers as due, " + wrong + " not");
        if (wrong != 0 || good == 0) {
            System.exit(1);
        }
    }
}
