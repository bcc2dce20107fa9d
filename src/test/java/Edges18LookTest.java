import java.util.NoSuchElementException;

/** The edges of promise 18. */
public final class Edges18LookTest {
    public static void main(String[] args) {
        Edges edges = new Edges("Promise 18");
        edges.of("IndexOutOfBoundsException: there is no such HIVE", Edges18LookTest::noSuchHive);
        edges.of("NoSuchElementException: another what", Edges18LookTest::anotherWhat);
        edges.of("Of several exceptions the one told first is thrown", Edges18LookTest::toldFirst);
        edges.of("0 BEES", c -> dueOf(c, 0, new int[] {0, 100000}));
        edges.of("1 ROOM", c -> dueOf(c, 1, new int[] {1000, 100000}));
        edges.of("2 MARK", c -> dueOf(c, 2, new int[] {0, 7}));
        edges.of("3 WARM", Edges18LookTest::warm);
        edges.of("4 the HOUR at which it swarmed last (NONE)", Edges18LookTest::swarmedLast);
        edges.finish();
    }

    private static SwarmLine withTwo() {
        SwarmLine line = new SwarmLine();
        line.hive(0, 0, 0, 1000, 0);
        line.hive(19, 19, 100000, 100000, 7);
        return line;
    }

    private static void noSuchHive(Check check) {
        SwarmLine line = withTwo();
        int[] none = {-1, 2, Integer.MIN_VALUE, Integer.MAX_VALUE};
        for (int n : none) {
            check.dueThrowAlone("HIVE " + n, IndexOutOfBoundsException.class, line, () -> line.look(n, 0));
        }
    }

    private static void anotherWhat(Check check) {
        SwarmLine line = withTwo();
        int[] others = {-1, 5, Integer.MIN_VALUE, Integer.MAX_VALUE};
        for (int what : others) {
            check.dueThrowAlone("what " + what, NoSuchElementException.class, line, () -> line.look(1, what));
        }
    }

    private static void toldFirst(Check check) {
        SwarmLine line = withTwo();
        check.dueThrow("HIVE 2, what 5", IndexOutOfBoundsException.class, () -> line.look(2, 5));
        check.dueThrow("HIVE -1, what -1", IndexOutOfBoundsException.class, () -> line.look(-1, -1));
    }

    private static void dueOf(Check check, int what, int[] due) {
        SwarmLine line = withTwo();
        check.dueRow("of HIVE", due, i -> line.look(i, what));
    }

    private static void warm(Check check) {
        SwarmLine line = Town.warm(31, 18);
        line.hive(0, 0, 0, 1000, 0);
        check.due("at first", 0, line.look(0, 3));
        Check.hours(line, 743);
        check.due("31 warm DAYS", 31, line.look(0, 3));
    }

    private static void swarmedLast(Check check) {
        SwarmLine line = Town.warm(6, 18);
        line.hive(10, 10, 5000, 1000, 0);
        line.hive(10, 10, 500, 1000, 0);
        line.hours(59);
        check.due("not yet", -1, line.look(0, 4));
        line.hours(1);
        check.due("once", 60, line.look(0, 4));
        check.due("never", -1, line.look(1, 4));
        line.hours(72);
        check.due("twice", 132, line.look(0, 4));
    }
}
