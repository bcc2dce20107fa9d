/** The edges of promise 22. */
public final class Edges22CountTest {
    public static void main(String[] args) {
        Edges edges = new Edges("Promise 22");
        edges.of("NONE for another what", Edges22CountTest::anotherWhat);
        edges.of("0 NOW", Edges22CountTest::now);
        edges.of("1 HIVES", Edges22CountTest::hives);
        edges.of("2 SWARMS", c -> dueOfSwarms(c, 2, 0, 2, 2, 2));
        edges.of("3 KEEPERS", Edges22CountTest::keepers);
        edges.of("4 CASES", c -> dueOfCases(c, 4, 0, 1, 1, 2, 2, 2));
        edges.of("5 CALLS", c -> dueOfCases(c, 5, 0, 1, 2, 3, 3, 3));
        edges.of("6 LINES", Edges22CountTest::lines);
        edges.of("7 SWARMS that HANG", c -> dueOfSwarms(c, 7, 0, 2, 1, 0));
        edges.of("8 SWARMS that are HAD", c -> dueOfSwarms(c, 8, 0, 0, 1, 1));
        edges.of("9 SWARMS that are GONE", c -> dueOfSwarms(c, 9, 0, 0, 0, 1));
        edges.of("10 CASES that are OPEN", c -> dueOfCases(c, 10, 0, 1, 1, 2, 1, 1));
        edges.of("11 all BEES in HIVES and SWARMS that HANG or are HAD", c -> dueOfSwarms(c, 11, 2012, 2012, 2012, 1507));
        edges.of("(the most BEES that there can be)", Edges22CountTest::mostBees);
        edges.finish();
    }

    private static void anotherWhat(Check check) {
        SwarmLine line = Town.withSwarm();
        int[] others = {-1, 12, -2, 13, Integer.MIN_VALUE, Integer.MAX_VALUE};
        for (int what : others) {
            check.due("count(" + what + ")", -1, line.count(what));
        }
    }

    private static void now(Check check) {
        SwarmLine line = new SwarmLine();
        check.due("at first", 0, line.count(0));
        line.hours(1);
        check.due("then", 1, line.count(0));
        Check.hours(line, 800);
        check.due("at last", 743, line.count(0));
    }

    private static void hives(Check check) {
        SwarmLine line = new SwarmLine();
        for (int i = 0; i < 20; i++) {
            check.due("HIVES", i, line.count(1));
            line.hive(0, 0, 0, 1000, 0);
        }
        check.due("HIVES", 20, line.count(1));
        check.dueThrow("a 21st", UnsupportedOperationException.class, () -> line.hive(0, 0, 0, 1000, 0));
        check.due("no more", 20, line.count(1));
    }

    private static void keepers(Check check) {
        SwarmLine line = new SwarmLine();
        for (int i = 0; i < 12; i++) {
            check.due("KEEPERS", i, line.count(3));
            line.keeper(0, 0, 0, 0, 1, 0, 0);
        }
        check.due("KEEPERS", 12, line.count(3));
        check.dueThrow("a 13th", UnsupportedOperationException.class, () -> line.keeper(0, 0, 0, 0, 1, 0, 0));
        check.due("no more", 12, line.count(3));
    }

    private static void lines(Check check) {
        SwarmLine line = new SwarmLine();
        line.keeper(0, 0, 0, 0, 1, 0, 0);
        check.due("none", 0, line.count(6));
        Check.rota(line, "in 0:0;in 1:0;in 2:0;in 3:0;in 4:0;in 5:0;in 6:0;in 7:0;in 8:0;else:0");
        check.due("ten", 10, line.count(6));
        Check.tape(line, "in 0:0;x");
        check.dueThrow("a wrong text", IllegalArgumentException.class, line::rota);
        check.due("they stay", 10, line.count(6));
        Check.rota(line, "else:0");
        check.due("one", 1, line.count(6));
    }

    /** Two hives of 1001 and 1011 bees: ahead of 60, at 60, with one swarm had at 61, with the other gone at 109. */
    private static void dueOfSwarms(Check check, int what, int... due) {
        SwarmLine line = Town.ripe();
        Town.hiveFor(line, 10, 10, 2, 0);
        Town.hiveFor(line, 5, 5, 3, 0);
        Town.keeperAt(line, 10, 10, 1);
        Check.rota(line, "else:0");
        for (int day = 3; day < 6; day++) {
            line.weather(day, 15, 0);
        }
        line.hours(59);
        check.due("at 59", due[0], line.count(what));
        line.hours(1);
        check.due("at 60", due[1], line.count(what));
        Town.callAndSend(line, "at 10 10");
        line.hours(1);
        check.due("at 61", due[2], line.count(what));
        line.hours(48);
        check.due("at 109", due[3], line.count(what));
    }

    /** None, one call, one more of the same case, one of another, a sending, and what it finds. */
    private static void dueOfCases(Check check, int what, int... due) {
        SwarmLine line = new SwarmLine();
        Town.keeperAt(line, 0, 0, 1);
        Check.rota(line, "else:0");
        check.due("no CALL", due[0], line.count(what));
        Check.call(line, "at 0 0");
        check.due("a CALL", due[1], line.count(what));
        Check.call(line, "at 0 0");
        check.due("of the same CASE", due[2], line.count(what));
        Check.call(line, "at 9 9");
        check.due("of another CASE", due[3], line.count(what));
        line.send(0);
        check.due("SENT", due[4], line.count(what));
        line.hours(1);
        check.due("FALSE", due[5], line.count(what));
    }

    private static void mostBees(Check check) {
        SwarmLine line = new SwarmLine();
        for (int i = 0; i < 20; i++) {
            line.hive(0, 0, 100000, 1000, 0);
        }
        for (int day = 0; day < 3; day++) {
            line.weather(day, 18, 100);
        }
        check.due("in HIVES", 2000000, line.count(11));
        line.hours(60);
        check.due("in HIVES and SWARMS", 2000000, line.count(11));
        line.hours(24);
        check.due("grown by 50", 20 * (50000 + 52500), line.count(11));
    }
}
