import java.util.Random;
import java.util.Set;

/** Runs of some 512 calls with wild arguments: nothing but what the document names is ever thrown. */
public final class WildTest {
    private static final String[] WORDS = {"at ", "at 3 4", "at 4 4", "high ", "since ", "mark ", "maybe", ",", ",", " ",
        "in ", "else", ":", ";", "0", "1", "5", "12", "19", "743", "x", "0001"};
    private static final int[] EDGES = {-1, 0, 1, 2, 3, 7, 9, 10, 11, 12, 18, 19, 20, 23, 24, 25, 30, 31, 40, 60, 100,
        1000, 100000, Integer.MIN_VALUE, Integer.MAX_VALUE};
    private static final int MOST_CALLS = 512;
    private static final int COSTLIEST_TEXT = 30;
    private static final Class<?> INDEX = IndexOutOfBoundsException.class;
    private static final Class<?> ARGUMENT = IllegalArgumentException.class;
    private static final Class<?> STATE = IllegalStateException.class;
    private static final Class<?> FULL = UnsupportedOperationException.class;
    private static final Class<?> WHAT = java.util.NoSuchElementException.class;

    private final Check check = new Check("WildTest");
    private final Random random = new Random(5);
    private SwarmLine line;
    private int made;

    public static void main(String[] args) {
        WildTest test = new WildTest();
        for (int run = 0; run < 600; run++) {
            test.line = new SwarmLine();
            test.made = 0;
            while (test.made < MOST_CALLS - COSTLIEST_TEXT) {
                test.oneCall();
            }
        }
        test.check.finish();
    }

    /** Mostly small, so that many calls find what they name; now and then any number at all. */
    private int any(int below) {
        int kind = random.nextInt(12);
        if (kind == 0) {
            return EDGES[random.nextInt(EDGES.length)];
        }
        return kind == 1 ? random.nextInt() : random.nextInt(below);
    }

    private String text() {
        if (random.nextInt(3) == 0) {
            return "at " + random.nextInt(20) + " " + random.nextInt(20) + ",high " + (1 + random.nextInt(9));
        }
        if (random.nextInt(3) == 0) {
            return "in " + random.nextInt(16) + ":" + random.nextInt(4) + ";else:0 1 2";
        }
        StringBuilder text = new StringBuilder();
        for (int i = random.nextInt(60); i > 0; i--) {
            text.append(random.nextInt(20) == 0 ? "" + (char) random.nextInt(256) : WORDS[random.nextInt(WORDS.length)]);
        }
        return text.toString();
    }

    /** A feed for each twenty bytes, and an end. */
    private void putText() {
        String text = text();
        made += (text.length() + 19) / 20 + 1;
        Check.tape(line, text);
    }

    private void oneCall() {
        int kind = random.nextInt(21);
        made++;
        Set<Class<?>> may = mayThrow(kind);
        try {
            make(kind);
        } catch (RuntimeException e) {
            if (!may.contains(e.getClass()) || !Check.isThrownByProgram(e)) {
                check.tell("a call of kind " + kind + " threw " + e);
            }
        }
    }

    private static Set<Class<?>> mayThrow(int kind) {
        switch (kind) {
            case 0: return Set.of(INDEX, ARGUMENT, STATE);
            case 1: case 4: return Set.of(INDEX, ARGUMENT);
            case 2: case 3: case 6: return Set.of(ARGUMENT, FULL);
            case 5: case 7: return Set.of(ARGUMENT);
            case 8: case 9: return Set.of(INDEX, STATE);
            case 10: return Set.of(INDEX);
            case 11: case 12: case 13: case 14: return Set.of(INDEX, WHAT);
            default: return Set.of();
        }
    }

    private int make(int kind) {
        switch (kind) {
            case 0: line.weather(any(31), any(41), any(101)); return 0;
            case 1: line.foretell(any(31), any(20), 20 + any(20)); return 0;
            case 2: return line.hive(any(20), any(20), any(100001), 1000 + random.nextInt(5000), any(8));
            case 3: return line.keeper(any(20), any(20), any(21), any(10), any(11), any(24), any(24));
            case 4: return line.boxes(any(5), any(21));
            case 5: return line.hours(any(30));
            case 6: putText(); return line.call();
            case 7: putText(); return line.rota();
            case 8: return line.send(any(8));
            case 9: return line.origin(any(8));
            case 10: return line.left(any(8), random.nextBoolean());
            case 11: return line.look(any(6), any(5));
            case 12: return line.swarm(any(8), any(10));
            case 13: return line.crew(any(8), any(5));
            case 14: return line.matter(any(8), any(10));
            case 15: return line.feed(any(9), any(9), any(9), any(9), any(9));
            case 16: return line.end(any(30)) ? 1 : 0;
            case 17: return line.fault();
            case 18: return line.asked(any(6), any(2));
            case 19: return line.most();
            default: return line.count(any(12));
        }
    }
}
