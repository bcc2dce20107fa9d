import java.util.NoSuchElementException;

/** The edges of promise 21. */
public final class Edges21MatterTest {
    public static void main(String[] args) {
        Edges edges = new Edges("Promise 21");
        edges.of("IndexOutOfBoundsException: there is no such CASE", Edges21MatterTest::noSuchCase);
        edges.of("NoSuchElementException: another what", Edges21MatterTest::anotherWhat);
        edges.of("Of several exceptions the one told first is thrown", Edges21MatterTest::toldFirst);
        edges.of("what 0: 0 OPEN, 1 SENT, 2 DONE, 3 FALSE", Edges21MatterTest::state);
        edges.of("1 x, 2 y", Edges21MatterTest::place);
        edges.of("3 HIGH", c -> dueFact(c, 3, new String[] {"", ",high 1", ",high 9"}, new int[] {0, 1, 9}));
        edges.of("4 SINCE (NONE)", c -> dueFact(c, 4, new String[] {"", ",since 0", ",since 30"}, new int[] {-1, 0, 30}));
        edges.of("5 MARK", c -> dueFact(c, 5, new String[] {"", ",mark 1", ",mark 7"}, new int[] {0, 1, 7}));
        edges.of("6 how many CALLS", Edges21MatterTest::calls);
        edges.of("7 the HOUR of the latest one", Edges21MatterTest::latest);
        edges.of("8 the KEEPER SENT last (NONE)", Edges21MatterTest::keeper);
        edges.of("9 the SWARM HAD by it (NONE)", Edges21MatterTest::swarm);
        edges.finish();
    }

    private static void noSuchCase(Check check) {
        int[] none = {-1, 2, Integer.MIN_VALUE, Integer.MAX_VALUE};
        for (int n : none) {
            SwarmLine line = new SwarmLine();
            Check.call(line, "at 0 0");
            Check.call(line, "at 9 9");
            check.dueThrowAlone("CASE " + n, IndexOutOfBoundsException.class, line, () -> line.matter(n, 0));
            check.due("x of the last", 9, line.matter(1, 1));
        }
    }

    private static void anotherWhat(Check check) {
        SwarmLine line = new SwarmLine();
        Check.call(line, "at 0 0");
        int[] others = {-1, 10, Integer.MIN_VALUE, Integer.MAX_VALUE};
        for (int what : others) {
            check.dueThrowAlone("what " + what, NoSuchElementException.class, line, () -> line.matter(0, what));
        }
    }

    private static void toldFirst(Check check) {
        SwarmLine line = new SwarmLine();
        Check.call(line, "at 0 0");
        check.dueThrow("CASE 1, what 10", IndexOutOfBoundsException.class, () -> line.matter(1, 10));
        check.dueThrow("CASE -1, what -1", IndexOutOfBoundsException.class, () -> line.matter(-1, -1));
    }

    private static void state(Check check) {
        SwarmLine line = Town.withSwarm();
        Check.call(line, "at 10 10");
        check.due("OPEN", 0, line.matter(0, 0));
        line.send(0);
        check.due("SENT", 1, line.matter(0, 0));
        line.hours(1);
        check.due("DONE", 2, line.matter(0, 0));
        line.hours(1);
        Town.callAndSend(line, "at 10 10");
        line.hours(1);
        check.due("FALSE", 3, line.matter(1, 0));
    }

    private static void place(Check check) {
        int[][] places = {{0, 0}, {19, 0}, {0, 19}, {19, 19}, {7, 12}};
        SwarmLine line = new SwarmLine();
        for (int i = 0; i < places.length; i++) {
            Check.call(line, "at " + places[i][0] + " " + places[i][1]);
            check.due("x", places[i][0], line.matter(i, 1));
            check.due("y", places[i][1], line.matter(i, 2));
        }
    }

    private static void dueFact(Check check, int what, String[] facts, int[] due) {
        for (int i = 0; i < facts.length; i++) {
            SwarmLine line = new SwarmLine();
            line.hours(30);
            Check.call(line, "at 5 6" + facts[i]);
            check.due("'" + facts[i] + "'", due[i], line.matter(0, what));
        }
    }

    private static void calls(Check check) {
        SwarmLine line = new SwarmLine();
        for (int i = 1; i <= 5; i++) {
            Check.call(line, "at 0 0");
            check.due("CALLS", i, line.matter(0, 6));
        }
        Check.tape(line, "at 0 0 x");
        check.dueThrow("a wrong one", IllegalArgumentException.class, line::call);
        check.due("a wrong one is none", 5, line.matter(0, 6));
    }

    private static void latest(Check check) {
        SwarmLine line = new SwarmLine();
        Check.call(line, "at 0 0");
        check.due("at 0", 0, line.matter(0, 7));
        line.hours(6);
        check.due("still", 0, line.matter(0, 7));
        Check.call(line, "at 1 1,maybe");
        check.due("at 6", 6, line.matter(0, 7));
    }

    private static void keeper(Check check) {
        SwarmLine line = Town.ripe();
        Town.hiveFor(line, 10, 10, 2, 0);
        line.keeper(10, 10, 1, 1, 1, 0, 23);
        line.keeper(10, 10, 1, 2, 1, 0, 23);
        Check.rota(line, "else:0 1");
        line.hours(60);
        Check.call(line, "at 10 10");
        check.due("none yet", -1, line.matter(0, 8));
        line.send(0);
        check.due("SENT", 0, line.matter(0, 8));
        line.hours(1);
        check.due("OPEN again", 0, line.matter(0, 8));
        line.send(0);
        check.due("SENT again", 1, line.matter(0, 8));
        line.hours(1);
        check.due("DONE", 2, line.matter(0, 0));
        check.due("by the last", 1, line.matter(0, 8));
    }

    private static void swarm(Check check) {
        SwarmLine line = Town.withSwarm();
        Town.callAndSend(line, "at 10 10");
        check.due("SENT", -1, line.matter(0, 9));
        line.hours(1);
        check.due("DONE", 0, line.matter(0, 9));
        line.hours(1);
        Town.callAndSend(line, "at 10 10");
        line.hours(1);
        check.due("FALSE", -1, line.matter(1, 9));
    }
}
