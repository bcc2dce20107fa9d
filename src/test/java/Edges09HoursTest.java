/** The edges of promise 9, and of what an hour does to swarms (2a) and keepers (2b). */
public final class Edges09HoursTest {
    public static void main(String[] args) {
        Edges edges = new Edges("Promise 9");
        edges.of("So many HOURS, one after the other .. NOW", Edges09HoursTest::oneAfterTheOther);
        edges.of("as far as NOW may go (743 at last)", Edges09HoursTest::asFarAsNowMayGo);
        edges.of("(no HOUR goes by at 743)", Edges09HoursTest::nothingPassesAtLast);
        edges.of("IllegalArgumentException: not 0 to 100", Edges09HoursTest::noNumber);
        edges.of("a call that throws changes nothing", Edges09HoursTest::changesNothing);
        edges.of("DAY of an HOUR: by 24, rounded down (0 to 30)", Edges09HoursTest::dayOfAnHour);
        edges.of("(a) less by 3 if the WARMTH .. is 25 or more", c -> loss(c, new int[] {25, 40}, 3));
        edges.of("(a) by 2 if it is 18 or more", c -> loss(c, new int[] {18, 24}, 2));
        edges.of("(a) else by 1", c -> loss(c, new int[] {17, 0, -20}, 1));
        edges.of("(a) at 0 .. it is GONE", Edges09HoursTest::goneAtNought);
        edges.of("(a) .. or below it is GONE", Edges09HoursTest::goneBelowNought);
        edges.of("(a) Each SWARM that HANGS", Edges09HoursTest::onlyThoseThatHang);
        edges.of("(b) an HOUR less to go; with none .. it is at its CASE", Edges09HoursTest::hourLessToGo);
        edges.of("(b) on the way back, with as many HOURS to go as it had to the CASE", Edges09HoursTest::wayBack);
        edges.of("(b) with none: if it is on the way back it is at HOME", Edges09HoursTest::atHome);
        edges.of("(b) Each KEEPER that is OUT, by numbers", Edges09HoursTest::keepersByNumbers);
        edges.of("in this order: (a) (b)", Edges09HoursTest::swarmsGoAheadOfKeepers);
        edges.of("in this order: (b) (c)", Edges09HoursTest::keepersComeAheadOfHives);
        edges.of("in this order: (a) (c)", Edges09HoursTest::swarmsLoseAheadOfHives);
        edges.finish();
    }

    private static void oneAfterTheOther(Check check) {
        SwarmLine once = Town.withSwarm();
        SwarmLine often = Town.withSwarm();
        Town.callAndSend(once, "at 10 10,maybe");
        Town.callAndSend(often, "at 10 10,maybe");
        check.due("hours(100)", 160, once.hours(100));
        for (int hour = 61; hour <= 160; hour++) {
            check.due("hours(1)", hour, often.hours(1));
        }
        check.due("hours(0)", 160, often.hours(0));
        check.dueState("100 at once", Check.stateOf(often), Check.stateOf(once));
    }

    private static void asFarAsNowMayGo(Check check) {
        SwarmLine line = new SwarmLine();
        Check.hours(line, 742);
        check.due("1 at 742", 743, line.hours(1));
        check.due("1 at 743", 743, line.hours(1));
        check.due("100 at 743", 743, line.hours(100));
        check.due("0 at 743", 743, line.hours(0));
        check.due("NOW", 743, line.count(0));
        SwarmLine other = new SwarmLine();
        Check.hours(other, 700);
        check.due("43 at 700", 743, other.hours(43));
        SwarmLine third = new SwarmLine();
        Check.hours(third, 700);
        check.due("44 at 700", 743, third.hours(44));
    }

    /** A swarm from 732 on, and a keeper on the way at 743. */
    private static void nothingPassesAtLast(Check check) {
        SwarmLine line = new SwarmLine();
        for (int day = 28; day <= 30; day++) {
            line.weather(day, 18, 0);
        }
        for (int day = 0; day < 28; day++) {
            line.weather(day, 15, 0);
        }
        line.hive(10, 8, 1001, 1000, 0);
        line.keeper(0, 0, 1, 9, 1, 0, 23);
        Check.rota(line, "else:0");
        Check.hours(line, 743);
        Town.callAndSend(line, "at 19 19");
        check.due("PATIENCE at 743", 60 - 2 * 11, line.swarm(0, 7));
        check.due("HOURS to go", 19, line.crew(0, 2));
        line.hours(100);
        check.due("PATIENCE stays", 60 - 2 * 11, line.swarm(0, 7));
        check.due("HOURS to go stay", 19, line.crew(0, 2));
    }

    private static void noNumber(Check check) {
        SwarmLine line = new SwarmLine();
        int[] none = {-1, 101, Integer.MIN_VALUE, Integer.MAX_VALUE};
        for (int n : none) {
            check.dueThrow("hours(" + n + ")", IllegalArgumentException.class, () -> line.hours(n));
        }
        check.due("hours(0)", 0, line.hours(0));
        check.due("hours(100)", 100, line.hours(100));
        Check.hours(line, 643);
        for (int n : none) {
            check.dueThrow("hours(" + n + ") at 743", IllegalArgumentException.class, () -> line.hours(n));
        }
    }

    private static void changesNothing(Check check) {
        SwarmLine line = Town.withSwarm();
        check.dueThrowAlone("-1", IllegalArgumentException.class, line, () -> line.hours(-1));
        check.dueThrowAlone("101", IllegalArgumentException.class, line, () -> line.hours(101));
        check.due("NOW", 60, line.count(0));
    }

    private static void dayOfAnHour(Check check) {
        SwarmLine line = Town.ripe();
        line.weather(3, 25, 0);
        line.weather(30, 15, 100);
        Town.hiveFor(line, 10, 10, 2, 0);
        line.hours(71);
        check.due("71 is of DAY 2", 60 - 2 * 11, line.swarm(0, 7));
        line.hours(1);
        check.due("72 is of DAY 3", 60 - 2 * 11 - 3, line.swarm(0, 7));
        line.weather(29, 15, 0);
        Check.hours(line, 719 - 72);
        line.weather(30, 15, 0);
        line.hours(1);
        check.dueThrow("720 is of DAY 30", IllegalStateException.class, () -> line.weather(30, 15, 0));
    }

    private static void loss(Check check, int[] warmths, int due) {
        for (int warmth : warmths) {
            SwarmLine line = Town.ripe();
            line.weather(3, warmth, 0);
            Town.hiveFor(line, 10, 10, 2, 0);
            line.hours(71);
            int ahead = line.swarm(0, 7);
            line.hours(1);
            check.due("less at " + warmth, due, ahead - line.swarm(0, 7));
            line.hours(1);
            check.due("less at " + warmth + ", two HOURS", 2 * due, ahead - line.swarm(0, 7));
        }
    }

    /** 38 at 71, then 1 an hour. */
    private static void goneAtNought(Check check) {
        SwarmLine line = Town.withSwarm();
        line.hours(48);
        check.due("PATIENCE at 108", 1, line.swarm(0, 7));
        check.due("HANGS with 1", 0, line.swarm(0, 0));
        line.hours(1);
        check.due("PATIENCE at 109", 0, line.swarm(0, 7));
        check.due("GONE with 0", 2, line.swarm(0, 0));
        check.due("the HOUR", 109, line.swarm(0, 9));
    }

    /** 38 at 71, then 3 an hour. */
    private static void goneBelowNought(Check check) {
        SwarmLine line = Town.ripe();
        line.weather(3, 25, 0);
        Town.hiveFor(line, 10, 10, 2, 0);
        line.hours(83);
        check.due("PATIENCE at 83", 2, line.swarm(0, 7));
        check.due("HANGS with 2", 0, line.swarm(0, 0));
        line.hours(1);
        check.due("GONE below 0", 2, line.swarm(0, 0));
        check.due("the HOUR", 84, line.swarm(0, 9));
        check.due("PATIENCE as it was last", -1, line.swarm(0, 7));
    }

    private static void onlyThoseThatHang(Check check) {
        SwarmLine line = Town.withSwarm();
        Town.callAndSend(line, "at 10 10");
        line.hours(1);
        check.due("HAD", 1, line.swarm(0, 0));
        check.due("PATIENCE", 58, line.swarm(0, 7));
        line.hours(100);
        check.due("still HAD", 1, line.swarm(0, 0));
        check.due("PATIENCE of one HAD stays", 58, line.swarm(0, 7));
        SwarmLine gone = Town.withSwarm();
        gone.hours(50);
        check.due("GONE", 2, gone.swarm(0, 0));
        gone.hours(50);
        check.due("PATIENCE of one GONE stays", 0, gone.swarm(0, 7));
        check.due("the HOUR stays", 109, gone.swarm(0, 9));
    }

    /** The way takes three hours. */
    private static SwarmLine withKeeperOut() {
        SwarmLine line = new SwarmLine();
        line.keeper(0, 0, 1, 9, 3, 0, 23);
        Check.rota(line, "else:0");
        Town.callAndSend(line, "at 7 2");
        return line;
    }

    private static void hourLessToGo(Check check) {
        SwarmLine line = withKeeperOut();
        for (int to = 3; to > 0; to--) {
            check.dueRow("crew", new int[] {1, 1, to, 0}, what -> line.crew(0, what));
            check.due("SENT", 1, line.matter(0, 0));
            line.hours(1);
        }
        check.due("FALSE at 3", 3, line.matter(0, 0));
    }

    private static void wayBack(Check check) {
        SwarmLine line = withKeeperOut();
        line.hours(3);
        for (int to = 3; to > 0; to--) {
            check.dueRow("crew", new int[] {2, 1, to, 0}, what -> line.crew(0, what));
            line.hours(1);
        }
        SwarmLine one = new SwarmLine();
        Town.keeperAt(one, 0, 0, 1);
        Check.rota(one, "else:0");
        Town.callAndSend(one, "at 0 0");
        one.hours(1);
        check.dueRow("crew, 1 HOUR", new int[] {2, 1, 1, 0}, what -> one.crew(0, what));
    }

    private static void atHome(Check check) {
        SwarmLine line = withKeeperOut();
        line.hours(5);
        check.due("on the way back at 5", 2, line.crew(0, 0));
        line.hours(1);
        check.dueRow("crew at 6", new int[] {0, 1, 0, -1}, what -> line.crew(0, what));
        line.hours(1);
        check.dueRow("crew at 7", new int[] {0, 1, 0, -1}, what -> line.crew(0, what));
    }

    private static void keepersByNumbers(Check check) {
        SwarmLine line = Town.withSwarm();
        Town.keeperAt(line, 10, 10, 1);
        Check.call(line, "at 10 10,mark 1");
        Check.call(line, "at 10 10,mark 2");
        Check.rota(line, "else:1");
        line.send(0);
        Check.rota(line, "else:0");
        line.send(1);
        line.hours(1);
        check.due("KEEPER 0, who was SENT last, has it", 0, line.swarm(0, 8));
        check.due("its CASE is DONE", 2, line.matter(1, 0));
        check.due("the other one is FALSE", 3, line.matter(0, 0));
    }

    private static void swarmsGoAheadOfKeepers(Check check) {
        SwarmLine line = Town.withSwarm();
        line.hours(48);
        Town.callAndSend(line, "at 10 10");
        line.hours(1);
        check.due("GONE at 109", 2, line.swarm(0, 0));
        check.due("FALSE", 3, line.matter(0, 0));
        SwarmLine ahead = Town.withSwarm();
        ahead.hours(47);
        Town.callAndSend(ahead, "at 10 10");
        ahead.hours(1);
        check.due("HAD at 108", 1, ahead.swarm(0, 0));
        check.due("PATIENCE is less ahead of it", 1, ahead.swarm(0, 7));
    }

    private static void keepersComeAheadOfHives(Check check) {
        SwarmLine line = Town.ripe();
        Town.hiveFor(line, 10, 10, 2, 0);
        Town.keeperAt(line, 10, 10, 1);
        Check.rota(line, "else:0");
        line.hours(59);
        Town.callAndSend(line, "at 10 10");
        line.hours(1);
        check.due("a SWARM at 60", 1, line.count(7));
        check.due("FALSE at 60", 3, line.matter(0, 0));
    }

    private static void swarmsLoseAheadOfHives(Check check) {
        SwarmLine line = Town.withSwarm();
        check.due("PATIENCE at 60", 60, line.swarm(0, 7));
        line.hours(1);
        check.due("PATIENCE at 61", 58, line.swarm(0, 7));
    }
}
