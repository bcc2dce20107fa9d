import java.util.function.IntSupplier;

/** What the tests share: answers that are due, exceptions that are due, texts, and the state that can be seen. */
final class Check {
    private final String name;
    private int wrong = 0;

    Check(String name) {
        this.name = name;
    }

    void due(String what, long want, long got) {
        if (got != want) {
            tell(what + " answered " + got + ", due is " + want);
        }
    }

    void due(String what, boolean want, boolean got) {
        due(what, want ? 1 : 0, got ? 1 : 0);
    }

    void dueRow(String what, int[] want, java.util.function.IntUnaryOperator got) {
        for (int i = 0; i < want.length; i++) {
            due(what + " " + i, want[i], got.applyAsInt(i));
        }
    }

    /** Exactly this class is due, and by a throw of the program's own. */
    void dueThrow(String what, Class<? extends RuntimeException> want, Runnable run) {
        Class<?> got = null;
        try {
            run.run();
        } catch (RuntimeException e) {
            got = e.getClass();
            if (!isThrownByProgram(e)) {
                tell(what + " let the machine throw " + e);
            }
        }
        if (got != want) {
            tell(what + " threw " + (got == null ? "nothing" : got.getName()) + ", due is " + want.getName());
        }
    }

    /** As dueThrow, and nothing that can be seen may change by it. */
    void dueThrowAlone(String what, Class<? extends RuntimeException> want, SwarmLine line, Runnable run) {
        String ahead = stateOf(line);
        dueThrow(what, want, run);
        if (!stateOf(line).equals(ahead)) {
            tell(what + " threw and changed the state");
        }
    }

    /** What a list or an array throws for a wrong index has the library's or no frame on top. */
    static boolean isThrownByProgram(RuntimeException e) {
        StackTraceElement[] frames = e.getStackTrace();
        boolean isOfMachine = e instanceof ArrayIndexOutOfBoundsException || e instanceof NullPointerException
                || e instanceof ArithmeticException || e instanceof ClassCastException
                || e instanceof NegativeArraySizeException || e instanceof ArrayStoreException;
        return !isOfMachine && frames.length > 0 && frames[0].getClassName().startsWith("SwarmLine");
    }

    void dueState(String what, String want, String got) {
        if (!want.equals(got)) {
            tell(what + " has another state: " + got + ", due is " + want);
        }
    }

    void tell(String what) {
        wrong++;
        System.out.println(name + ": " + what);
    }

    boolean isRight() {
        return wrong == 0;
    }

    void finish() {
        System.out.println(wrong == 0 ? "all answers are as due" : wrong + " answers are not as due");
        if (wrong != 0) {
            System.exit(1);
        }
    }

    /** Puts a text on a tape that is empty. */
    static void tape(SwarmLine line, String text) {
        for (int i = 0; i < text.length(); i += 20) {
            line.feed(four(text, i), four(text, i + 4), four(text, i + 8), four(text, i + 12), four(text, i + 16));
        }
        line.end(text.length());
    }

    static int call(SwarmLine line, String text) {
        tape(line, text);
        return line.call();
    }

    static int rota(SwarmLine line, String text) {
        tape(line, text);
        return line.rota();
    }

    static void hours(SwarmLine line, int many) {
        for (int to = many; to > 0; to -= 100) {
            line.hours(Math.min(to, 100));
        }
    }

    void wrongText(String text, int where, SwarmLine line, IntSupplier reader) {
        tape(line, text);
        dueThrowAlone("'" + text + "'", IllegalArgumentException.class, line, reader::getAsInt);
        due("fault() of '" + text + "'", where, line.fault());
        due("the tape's length behind '" + text + "'", 1, line.end(0) && !line.end(1) ? 1 : 0);
    }

    static String stateOf(SwarmLine line) {
        StringBuilder state = new StringBuilder();
        for (int what = 0; what < 12; what++) {
            state.append(line.count(what)).append(' ');
        }
        for (int i = 0; i < line.count(1); i++) {
            for (int what = 0; what < 5; what++) {
                state.append(line.look(i, what)).append(' ');
            }
        }
        for (int i = 0; i < line.count(2); i++) {
            for (int what = 0; what < 10; what++) {
                state.append(line.swarm(i, what)).append(' ');
            }
        }
        for (int i = 0; i < line.count(3); i++) {
            for (int what = 0; what < 5; what++) {
                state.append(line.crew(i, what)).append(' ');
            }
        }
        for (int i = 0; i < line.count(4); i++) {
            for (int what = 0; what < 10; what++) {
                state.append(line.matter(i, what)).append(' ');
            }
            state.append(line.left(i, true)).append(' ').append(line.left(i, false)).append(' ');
        }
        for (int i = 0; i < 12; i++) {
            state.append(line.asked(i, 0)).append(' ').append(line.asked(i, 1)).append(' ');
        }
        return state.append(line.most()).toString();
    }

    private static int four(String text, int from) {
        int number = 0;
        for (int i = from; i < from + 4; i++) {
            number = number << 8 | (i < text.length() ? text.charAt(i) & 255 : 0);
        }
        return number;
    }
}
