import java.util.NoSuchElementException;

/** The edges of the sentence on exceptions below the terms, which binds every promise that throws. */
public final class EdgesThrowsTest {
    private static final String TEXT = "at 9 9,high 3 x";

    public static void main(String[] args) {
        Edges edges = new Edges("Promises 4 to 11, 13, 15, 17 to 21");
        edges.of("a call that throws changes nothing but the TAPE", EdgesThrowsTest::changesNothing);
        edges.of("the TAPE, where it is used up (by no other call than call() and rota())", EdgesThrowsTest::tapeStays);
        edges.of("the TAPE, where it is used up (by call() and rota())", EdgesThrowsTest::tapeIsUsedUp);
        edges.finish();
    }

    /** A swarm that hangs, one that is had, a case that is done and one that is open: NOW is 62. */
    private static SwarmLine town() {
        SwarmLine line = Town.withSwarm();
        Town.callAndSend(line, "at 10 10,since 60");
        line.hours(2);
        Check.call(line, "at 1 1,since 61");
        line.send(1);
        return line;
    }

    private interface Throwing {
        void run(SwarmLine line);
    }

    private static void each(Visitor visitor) {
        Class<IndexOutOfBoundsException> index = IndexOutOfBoundsException.class;
        Class<IllegalArgumentException> argument = IllegalArgumentException.class;
        Class<IllegalStateException> state = IllegalStateException.class;
        Class<NoSuchElementException> what = NoSuchElementException.class;
        visitor.visit("weather(31, 0, 0)", index, line -> line.weather(31, 0, 0));
        visitor.visit("weather(9, 41, 0)", argument, line -> line.weather(9, 41, 0));
        visitor.visit("weather(2, 40, 100)", state, line -> line.weather(2, 40, 100));
        visitor.visit("foretell(31, 0, 0)", index, line -> line.foretell(31, 0, 0));
        visitor.visit("foretell(3, 40, 41)", argument, line -> line.foretell(3, 40, 41));
        visitor.visit("hive(20, 0, 0, 1000, 0)", argument, line -> line.hive(20, 0, 0, 1000, 0));
        visitor.visit("keeper(0, 0, 0, 0, 0, 0, 0)", argument, line -> line.keeper(0, 0, 0, 0, 0, 0, 0));
        visitor.visit("boxes(1, 1)", index, line -> line.boxes(1, 1));
        visitor.visit("boxes(0, 21)", argument, line -> line.boxes(0, 21));
        visitor.visit("hours(101)", argument, line -> line.hours(101));
        visitor.visit("send(2)", index, line -> line.send(2));
        visitor.visit("send(0)", state, line -> line.send(0));
        visitor.visit("left(2, true)", index, line -> line.left(2, true));
        visitor.visit("origin(1)", index, line -> line.origin(1));
        visitor.visit("look(1, 0)", index, line -> line.look(1, 0));
        visitor.visit("look(0, 5)", what, line -> line.look(0, 5));
        visitor.visit("swarm(1, 0)", index, line -> line.swarm(1, 0));
        visitor.visit("swarm(0, 10)", what, line -> line.swarm(0, 10));
        visitor.visit("crew(1, 0)", index, line -> line.crew(1, 0));
        visitor.visit("crew(0, 5)", what, line -> line.crew(0, 5));
        visitor.visit("matter(2, 0)", index, line -> line.matter(2, 0));
        visitor.visit("matter(0, 10)", what, line -> line.matter(0, 10));
    }

    private interface Visitor {
        void visit(String name, Class<? extends RuntimeException> due, Throwing call);
    }

    private static void changesNothing(Check check) {
        each((name, due, call) -> {
            SwarmLine line = town();
            check.dueThrowAlone(name, due, line, () -> call.run(line));
            check.due("fault() behind " + name, -1, line.fault());
            SwarmLine other = town();
            line.hours(100);
            other.hours(100);
            check.dueState("100 HOURS behind " + name, Check.stateOf(other), Check.stateOf(line));
        });
    }

    private static void tapeStays(Check check) {
        each((name, due, call) -> {
            SwarmLine line = town();
            Check.tape(line, TEXT);
            check.dueThrow(name, due, () -> call.run(line));
            check.due("end behind " + name, false, line.end(TEXT.length() + 1));
            check.dueThrow("call() behind " + name, IllegalArgumentException.class, line::call);
            check.due("fault() of the same text behind " + name, 14, line.fault());
        });
    }

    private static void tapeIsUsedUp(Check check) {
        SwarmLine line = town();
        Check.tape(line, TEXT);
        check.dueThrowAlone("call()", IllegalArgumentException.class, line, line::call);
        check.due("behind call()", false, line.end(1));
        Check.tape(line, TEXT);
        check.dueThrowAlone("rota()", IllegalArgumentException.class, line, line::rota);
        check.due("behind rota()", false, line.end(1));
    }
}
