import java.util.Arrays;

/** Counts and prints what is not as due; a test ends with exit code 1 if there was any. */
final class Check {
    interface Call {
        int run();
    }

    private String sentence = "";
    private int sentences;
    private int wrong;
    private int done;

    /** A test of its own for a sentence of the document: where that stands, and its words. */
    void sentence(String words, Runnable test) {
        sentence = words;
        sentences++;
        int before = done;
        try {
            test.run();
        } catch (RuntimeException e) {
            tell("the test ended with " + e);
        }
        holds("something is tested", done > before);
        sentence = "";
    }

    void is(String what, long got, long due) {
        same(what, String.valueOf(got), String.valueOf(due));
    }

    void holds(String what, boolean so) {
        done++;
        if (!so) {
            tell(what + " does not hold");
        }
    }

    void answers(int due, String what, Call call) {
        same(what, outcome(call), String.valueOf(due));
    }

    void noIndex(String what, Call call) {
        refuses(IndexOutOfBoundsException.class, what, call);
    }

    void noArgument(String what, Call call) {
        refuses(IllegalArgumentException.class, what, call);
    }

    void noState(String what, Call call) {
        refuses(IllegalStateException.class, what, call);
    }

    private void refuses(Class<? extends RuntimeException> due, String what, Call call) {
        same(what, outcome(call), due.getName());
    }

    /** Of texts of several lines the first one that differs is told. */
    void same(String what, String got, String due) {
        done++;
        String[] gotLines = got.split("\n", -1);
        String[] dueLines = due.split("\n", -1);
        int line = Math.max(0, Arrays.mismatch(gotLines, dueLines));
        if (!got.equals(due)) {
            tell(what + " answered " + at(gotLines, line) + ", due is " + at(dueLines, line));
        }
    }

    private static String at(String[] lines, int line) {
        return line < lines.length ? lines[line] : "nothing";
    }

    /** The answer of a call as a text, or the name of the very class that it throws. */
    static String outcome(Call call) {
        try {
            return String.valueOf(call.run());
        } catch (RuntimeException e) {
            return e.getClass().getName();
        }
    }

    private void tell(String text) {
        wrong++;
        if (wrong <= 50) {
            System.out.println(sentence.isEmpty() ? text : "[" + sentence + "] " + text);
        }
    }

    void end() {
        String tested = sentences == 0 ? "" : sentences + " sentences, ";
        System.out.println(tested + done + " checks, " + wrong + " wrong");
        if (wrong != 0) {
            System.exit(1);
        }
    }
}
