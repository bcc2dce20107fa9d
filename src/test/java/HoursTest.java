/** Promise 9 (hours), and the order in which an hour goes on. */
public final class HoursTest {
    public static void main(String[] args) {
        Check check = new Check("HoursTest");
        bounds(check);
        lastHour(check);
        oneByOne(check);
        swarmsGoAheadOfKeepers(check);
        keepersComeAheadOfHives(check);
        keepersComeByNumbers(check);
        check.finish();
    }

    private static void bounds(Check check) {
        SwarmLine line = new SwarmLine();
        int[] wrong = {-1, 101, Integer.MIN_VALUE, Integer.MAX_VALUE};
        for (int n : wrong) {
            check.dueThrowAlone("hours(" + n + ")", IllegalArgumentException.class, line, () -> line.hours(n));
        }
        check.due("hours(0)", 0, line.hours(0));
        check.due("hours(1)", 1, line.hours(1));
        check.due("hours(100)", 101, line.hours(100));
    }

    private static void lastHour(Check check) {
        SwarmLine line = new SwarmLine();
        Check.hours(line, 700);
        check.due("as far as NOW may go", 743, line.hours(100));
        check.due("no farther", 743, line.hours(1));
        check.dueThrow("wrong at the end too", IllegalArgumentException.class, () -> line.hours(101));
        check.due("NOW", 743, line.count(0));
    }

    private static void oneByOne(Check check) {
        SwarmLine once = busyLine();
        SwarmLine often = busyLine();
        once.hours(97);
        for (int i = 0; i < 97; i++) {
            often.hours(1);
        }
        check.dueState("97 hours", Check.stateOf(often), Check.stateOf(once));
    }

    private static SwarmLine busyLine() {
        SwarmLine line = new SwarmLine();
        HiveTest.warm(line, 4, 20);
        line.hive(10, 10, 20000, 1000, 3);
        line.hive(3, 3, 9000, 1000, 2);
        line.keeper(9, 9, 2, 9, 1, 0, 23);
        Check.rota(line, "else:0");
        Check.call(line, "at 1 1");
        line.send(0);
        return line;
    }

    /** A swarm from 10 10 that hangs at 8 13, height 3, from 60 on, and is gone at 90. */
    private static SwarmLine lineWithSwarm() {
        SwarmLine line = new SwarmLine();
        HiveTest.warm(line, 4, 20);
        line.hive(10, 10, 20000, 1000, 3);
        line.keeper(8, 13, 2, 9, 10, 0, 23);
        line.keeper(8, 13, 2, 9, 10, 0, 23);
        Check.rota(line, "in 9:1 0;else:0");
        return line;
    }

    private static void swarmsGoAheadOfKeepers(Check check) {
        for (int hour = 88; hour <= 89; hour++) {
            SwarmLine line = lineWithSwarm();
            Check.hours(line, hour);
            Check.call(line, "at 8 13");
            line.send(0);
            line.hours(1);
            check.due("HAD at 89, GONE at 90", hour == 88 ? 1 : 2, line.swarm(0, 0));
            check.due("DONE at 89, FALSE at 90", hour == 88 ? 2 : 3, line.matter(0, 0));
            check.due("PATIENCE", hour == 88 ? 2 : 0, line.swarm(0, 7));
            check.due("the HOUR", hour + 1, line.swarm(0, 9));
        }
    }

    private static void keepersComeAheadOfHives(Check check) {
        SwarmLine line = lineWithSwarm();
        line.hours(59);
        Check.call(line, "at 8 13");
        line.send(0);
        line.hours(1);
        check.due("SWARMS", 1, line.count(2));
        check.due("none was there yet", 3, line.matter(0, 0));
        check.due("HANGS", 0, line.swarm(0, 0));
    }

    private static void keepersComeByNumbers(Check check) {
        SwarmLine line = lineWithSwarm();
        line.hours(60);
        Check.call(line, "at 8 13,mark 1");
        Check.call(line, "at 8 13,mark 2");
        check.due("asked first", 1, line.send(0));
        check.due("asked next", 0, line.send(1));
        line.hours(1);
        check.due("KEEPER 0 has it", 0, line.swarm(0, 8));
        check.due("CASE 1 is DONE", 2, line.matter(1, 0));
        check.due("CASE 0 is FALSE", 3, line.matter(0, 0));
    }
}
