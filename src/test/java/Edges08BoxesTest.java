/** The edges of promise 8. */
public final class Edges08BoxesTest {
    public static void main(String[] args) {
        Edges edges = new Edges("Promise 8");
        edges.of("A KEEPER has so many BOXES more .. how many", Edges08BoxesTest::soManyMore);
        edges.of("(20 at most)", Edges08BoxesTest::twentyAtMost);
        edges.of("IndexOutOfBoundsException: there is no such KEEPER", Edges08BoxesTest::noSuchKeeper);
        edges.of("IllegalArgumentException: not 0 to 20", Edges08BoxesTest::noNumber);
        edges.of("Of several exceptions the one told first is thrown", Edges08BoxesTest::toldFirst);
        edges.of("a call that throws changes nothing", Edges08BoxesTest::changesNothing);
        edges.finish();
    }

    private static SwarmLine line(int... boxes) {
        SwarmLine line = new SwarmLine();
        for (int n : boxes) {
            line.keeper(0, 0, n, 0, 1, 0, 23);
        }
        return line;
    }

    private static void soManyMore(Check check) {
        SwarmLine line = line(3, 5);
        check.due("none more", 3, line.boxes(0, 0));
        check.due("one more", 4, line.boxes(0, 1));
        check.due("BOXES", 4, line.crew(0, 1));
        check.due("BOXES of the other", 5, line.crew(1, 1));
        Check.rota(line, "else:0");
        Check.call(line, "at 9 9");
        line.send(0);
        check.due("one more for a KEEPER who is OUT", 5, line.boxes(0, 1));
    }

    private static void twentyAtMost(Check check) {
        SwarmLine line = line(0, 1, 20, 18);
        check.due("20 to none", 20, line.boxes(0, 20));
        check.due("20 to 1", 20, line.boxes(1, 20));
        check.due("1 to 20", 20, line.boxes(2, 1));
        check.due("2 to 18", 20, line.boxes(3, 2));
        check.due("3 to 20", 20, line.boxes(3, 3));
        check.dueRow("BOXES", new int[] {20, 20, 20, 20}, i -> line.crew(i, 1));
    }

    private static void noSuchKeeper(Check check) {
        SwarmLine line = line(1, 1);
        int[] none = {-1, 2, Integer.MIN_VALUE, Integer.MAX_VALUE};
        for (int n : none) {
            check.dueThrow("KEEPER " + n, IndexOutOfBoundsException.class, () -> line.boxes(n, 1));
        }
        check.due("the first", 2, line.boxes(0, 1));
        check.due("the last", 2, line.boxes(1, 1));
    }

    private static void noNumber(Check check) {
        SwarmLine line = line(1);
        int[] none = {-1, 21, Integer.MIN_VALUE, Integer.MAX_VALUE};
        for (int n : none) {
            check.dueThrow(n + " BOXES", IllegalArgumentException.class, () -> line.boxes(0, n));
        }
        check.due("0", 1, line.boxes(0, 0));
        check.due("20", 20, line.boxes(0, 20));
        check.dueThrow("21 to 20", IllegalArgumentException.class, () -> line.boxes(0, 21));
    }

    private static void toldFirst(Check check) {
        SwarmLine line = line(1);
        check.dueThrow("no KEEPER, -1", IndexOutOfBoundsException.class, () -> line.boxes(1, -1));
        check.dueThrow("no KEEPER, 21", IndexOutOfBoundsException.class, () -> line.boxes(-1, 21));
    }

    private static void changesNothing(Check check) {
        SwarmLine line = line(4);
        check.dueThrowAlone("-1", IllegalArgumentException.class, line, () -> line.boxes(0, -1));
        check.dueThrowAlone("21", IllegalArgumentException.class, line, () -> line.boxes(0, 21));
        check.dueThrowAlone("no KEEPER", IndexOutOfBoundsException.class, line, () -> line.boxes(1, 1));
    }
}
