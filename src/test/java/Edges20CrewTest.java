import java.util.NoSuchElementException;

/** The edges of promise 20. */
public final class Edges20CrewTest {
    public static void main(String[] args) {
        Edges edges = new Edges("Promise 20");
        edges.of("IndexOutOfBoundsException: there is no such KEEPER", Edges20CrewTest::noSuchKeeper);
        edges.of("NoSuchElementException: another what", Edges20CrewTest::anotherWhat);
        edges.of("Of several exceptions the one told first is thrown", Edges20CrewTest::toldFirst);
        edges.of("what 0: 0 at HOME, 1 OUT to a CASE, 2 on the way back", c -> dueWay(c, 0, 0, 1, 1, 2, 2, 0));
        edges.of("1 BOXES", c -> dueWay(c, 1, 5, 5, 5, 4, 4, 4));
        edges.of("2 HOURS to go (0 at HOME)", c -> dueWay(c, 2, 0, 2, 1, 2, 1, 0));
        edges.of("3 its CASE (NONE at HOME; on the way back that from which it comes)",
                c -> dueWay(c, 3, -1, 1, 1, 1, 1, -1));
        edges.of("4 how many SWARMS it had", c -> dueWay(c, 4, 0, 0, 0, 1, 1, 1));
        edges.finish();
    }

    private static SwarmLine withTwo() {
        SwarmLine line = new SwarmLine();
        line.keeper(0, 0, 0, 0, 1, 0, 0);
        line.keeper(19, 19, 20, 9, 10, 23, 23);
        return line;
    }

    private static void noSuchKeeper(Check check) {
        SwarmLine line = withTwo();
        int[] none = {-1, 2, Integer.MIN_VALUE, Integer.MAX_VALUE};
        for (int n : none) {
            check.dueThrowAlone("KEEPER " + n, IndexOutOfBoundsException.class, line, () -> line.crew(n, 0));
        }
        check.due("BOXES of the last", 20, line.crew(1, 1));
    }

    private static void anotherWhat(Check check) {
        SwarmLine line = withTwo();
        int[] others = {-1, 5, Integer.MIN_VALUE, Integer.MAX_VALUE};
        for (int what : others) {
            check.dueThrowAlone("what " + what, NoSuchElementException.class, line, () -> line.crew(1, what));
        }
    }

    private static void toldFirst(Check check) {
        SwarmLine line = withTwo();
        check.dueThrow("KEEPER 2, what 5", IndexOutOfBoundsException.class, () -> line.crew(2, 5));
        check.dueThrow("KEEPER -1, what -1", IndexOutOfBoundsException.class, () -> line.crew(-1, -1));
    }

    /** At home, at the four hours of a way of two hours to case 1 and back, and at home again. */
    private static void dueWay(Check check, int what, int... due) {
        SwarmLine line = Town.ripe();
        Town.hiveFor(line, 10, 10, 2, 0);
        line.keeper(10, 7, 5, 9, 2, 0, 23);
        Check.rota(line, "else:0");
        line.hours(60);
        Check.call(line, "at 0 0");
        Check.call(line, "at 10 10");
        check.due("at HOME", due[0], line.crew(0, what));
        line.send(1);
        for (int i = 1; i < due.length; i++) {
            check.due("at " + line.count(0), due[i], line.crew(0, what));
            line.hours(1);
        }
    }
}
