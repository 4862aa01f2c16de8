/** Counts and prints what is not as due; a test ends with exit code 1 if there was any. */
final class Check {
    interface Call {
        int run();
    }

    private int wrong;
    private int done;

    void is(String what, long got, long due) {
        done++;
        if (got != due) {
            tell(what + " answered " + got + ", due is " + due);
        }
    }

    void holds(String what, boolean so) {
        done++;
        if (!so) {
            tell(what + " does not hold");
        }
    }

    void answers(int due, String what, Call call) {
        same(what, outcome(call), String.valueOf(due));
    }

    void refuses(Class<? extends RuntimeException> due, String what, Call call) {
        same(what, outcome(call), due.getName());
    }

    void same(String what, String got, String due) {
        done++;
        if (!got.equals(due)) {
            tell(what + " answered " + got + ", due is " + due);
        }
    }

    /** The answer of a call as a text, or the name of the very class that it throws. */
    static String outcome(Call call) {
        try {
            return String.valueOf(call.run());
        } catch (RuntimeException e) {
            return e.getClass().getName();
        }
    }

    private void tell(String text) {
        wrong++;
        if (wrong <= 50) {
            System.out.println(text);
        }
    }

    void end() {
        System.out.println(done + " checks, " + wrong + " wrong");
        if (wrong != 0) {
            System.exit(1);
        }
    }
}
