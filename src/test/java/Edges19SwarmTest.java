import java.util.NoSuchElementException;

/** The edges of promise 19. */
public final class Edges19SwarmTest {
    public static void main(String[] args) {
        Edges edges = new Edges("Promise 19");
        edges.of("IndexOutOfBoundsException: there is no such SWARM", Edges19SwarmTest::noSuchSwarm);
        edges.of("NoSuchElementException: another what", Edges19SwarmTest::anotherWhat);
        edges.of("Of several exceptions the one told first is thrown", Edges19SwarmTest::toldFirst);
        edges.of("what 0: 0 HANGS, 1 HAD, 2 GONE", Edges19SwarmTest::state);
        edges.of("1 HIVE, 2 BEES, 3 x, 4 y, 5 HEIGHT, 6 LEFT", Edges19SwarmTest::asItLeft);
        edges.of("7 PATIENCE (as it was last)", Edges19SwarmTest::patience);
        edges.of("8 the KEEPER who has it (NONE)", Edges19SwarmTest::keeper);
        edges.of("9 the HOUR at which it was HAD, or GONE (NONE)", Edges19SwarmTest::hour);
        edges.finish();
    }

    private static SwarmLine had() {
        SwarmLine line = Town.withSwarm();
        Town.callAndSend(line, "at 10 10");
        line.hours(1);
        return line;
    }

    private static SwarmLine gone() {
        SwarmLine line = Town.withSwarm();
        line.hours(49);
        return line;
    }

    private static void noSuchSwarm(Check check) {
        int[] none = {-1, 1, Integer.MIN_VALUE, Integer.MAX_VALUE};
        for (int n : none) {
            SwarmLine line = Town.withSwarm();
            check.dueThrowAlone("SWARM " + n, IndexOutOfBoundsException.class, line, () -> line.swarm(n, 0));
        }
        SwarmLine early = Town.ripe();
        Town.hiveFor(early, 10, 10, 2, 0);
        early.hours(59);
        check.dueThrow("none yet", IndexOutOfBoundsException.class, () -> early.swarm(0, 0));
    }

    private static void anotherWhat(Check check) {
        int[] others = {-1, 10, Integer.MIN_VALUE, Integer.MAX_VALUE};
        for (int what : others) {
            SwarmLine line = Town.withSwarm();
            check.dueThrowAlone("what " + what, NoSuchElementException.class, line, () -> line.swarm(0, what));
        }
    }

    private static void toldFirst(Check check) {
        SwarmLine line = Town.withSwarm();
        check.dueThrow("SWARM 1, what 10", IndexOutOfBoundsException.class, () -> line.swarm(1, 10));
        check.dueThrow("SWARM -1, what -1", IndexOutOfBoundsException.class, () -> line.swarm(-1, -1));
    }

    private static void state(Check check) {
        check.due("HANGS", 0, Town.withSwarm().swarm(0, 0));
        check.due("HAD", 1, had().swarm(0, 0));
        check.due("GONE", 2, gone().swarm(0, 0));
    }

    private static void asItLeft(Check check) {
        SwarmLine[] lines = {Town.withSwarm(), had(), gone()};
        for (SwarmLine line : lines) {
            check.dueRow("from 1 on", new int[] {0, 500, 10, 10, 2, 60}, i -> line.swarm(0, 1 + i));
        }
    }

    private static void patience(Check check) {
        check.due("HANGS", 60, Town.withSwarm().swarm(0, 7));
        SwarmLine had = had();
        had.hours(9);
        check.due("HAD", 58, had.swarm(0, 7));
        SwarmLine gone = gone();
        gone.hours(9);
        check.due("GONE", 0, gone.swarm(0, 7));
    }

    private static void keeper(Check check) {
        check.due("HANGS", -1, Town.withSwarm().swarm(0, 8));
        check.due("HAD", 0, had().swarm(0, 8));
        check.due("GONE", -1, gone().swarm(0, 8));
        SwarmLine other = Town.withSwarm();
        Town.keeperAt(other, 10, 10, 1);
        Check.rota(other, "else:1");
        Town.callAndSend(other, "at 10 10");
        other.hours(1);
        check.due("HAD by KEEPER 1", 1, other.swarm(0, 8));
    }

    private static void hour(Check check) {
        check.due("HANGS", -1, Town.withSwarm().swarm(0, 9));
        SwarmLine had = had();
        had.hours(9);
        check.due("HAD", 61, had.swarm(0, 9));
        SwarmLine gone = gone();
        gone.hours(9);
        check.due("GONE", 109, gone.swarm(0, 9));
    }
}
