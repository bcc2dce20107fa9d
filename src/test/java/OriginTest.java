/** Promise 17 (origin). */
public final class OriginTest {
    public static void main(String[] args) {
        Check check = new Check("OriginTest");
        wrongSwarms(check);
        byMark(check);
        bySteps(check);
        byHours(check);
        notBehind(check);
        neverSwarmed(check);
        check.finish();
    }

    /** From 10 10 by 20000 bees: hangs at 8 13, height 3, from 60 on. */
    private static SwarmLine lineWithSwarm() {
        SwarmLine line = new SwarmLine();
        HiveTest.warm(line, 3, 20);
        line.hive(10, 10, 20000, 1000, 3);
        line.keeper(8, 13, 5, 9, 10, 0, 23);
        Check.rota(line, "else:0");
        return line;
    }

    private static void have(SwarmLine line, String text) {
        line.send(Check.call(line, text));
        line.hours(1);
    }

    private static void wrongSwarms(Check check) {
        SwarmLine line = lineWithSwarm();
        check.dueThrow("no SWARM", IndexOutOfBoundsException.class, () -> line.origin(0));
        line.hours(60);
        check.dueThrow("HANGS", IllegalStateException.class, () -> line.origin(0));
        check.dueThrow("swarm -1", IndexOutOfBoundsException.class, () -> line.origin(-1));
        check.dueThrow("swarm 1", IndexOutOfBoundsException.class, () -> line.origin(1));
        have(line, "at 8 13");
        check.due("the HIVE", 0, line.origin(0));
        SwarmLine gone = lineWithSwarm();
        gone.hours(100);
        gone.hours(100);
        check.due("GONE", 2, gone.swarm(0, 0));
        check.dueThrow("GONE", IllegalStateException.class, () -> gone.origin(0));
    }

    private static void byMark(Check check) {
        String[] texts = {"at 8 13", "at 8 13,mark 3", "at 8 13,mark 4", "at 8 13,mark 5"};
        int[] due = {-1, 0, 1, -1};
        for (int i = 0; i < texts.length; i++) {
            SwarmLine line = lineWithSwarm();
            line.hive(10, 10, 30000, 1000, 4);
            line.hive(10, 10, 500, 1000, 5);
            line.hours(60);
            have(line, texts[i]);
            check.due("HAD by '" + texts[i] + "'", 1, line.swarm(0, 0));
            check.due("origin by '" + texts[i] + "'", due[i], line.origin(0));
        }
        SwarmLine unmarked = new SwarmLine();
        HiveTest.warm(unmarked, 3, 20);
        unmarked.hive(10, 10, 20000, 1000, 0);
        unmarked.keeper(8, 13, 5, 9, 10, 0, 23);
        Check.rota(unmarked, "else:0");
        unmarked.hours(60);
        have(unmarked, "at 8 13,mark 1");
        check.due("a HIVE without a MARK has not that one", -1, unmarked.origin(0));
    }

    private static void bySteps(Check check) {
        int[][] due = {{5, 13, -1}, {4, 13, 0}, {11, 16, -1}, {11, 17, 0}, {8, 10, -1}, {8, 9, 0}, {12, 13, 0}};
        for (int[] d : due) {
            SwarmLine line = lineWithSwarm();
            line.hive(d[0], d[1], 30000, 1000, 3);
            line.hours(60);
            have(line, "at 8 13,mark 3");
            check.due("HAD from HIVE 0", 0, line.matter(0, 9));
            check.due("another at " + d[0] + " " + d[1], d[2], line.origin(0));
        }
    }

    /** Hive 0 swarms at 60, hive 1, which comes later, at 84: its swarm hangs until 133. */
    private static void byHours(Check check) {
        for (int hour = 119; hour <= 120; hour++) {
            SwarmLine line = new SwarmLine();
            HiveTest.warm(line, 4, 18);
            line.weather(4, 10, 0);
            line.weather(5, 10, 0);
            line.hive(10, 10, 30000, 1000, 0);
            line.keeper(10, 10, 1, 9, 10, 0, 23);
            Check.rota(line, "else:0");
            line.hours(13);
            line.hive(10, 10, 20000, 1000, 0);
            Check.hours(line, hour - 13);
            check.due("HIVE 0 swarmed", 60, line.look(0, 4));
            check.due("HIVE 1 swarmed", 84, line.look(1, 4));
            check.due("HANGS", 0, line.swarm(1, 0));
            have(line, "at " + line.swarm(1, 3) + " " + line.swarm(1, 4));
            check.due("HAD", 1, line.swarm(1, 0));
            check.due("at", hour + 1, line.swarm(1, 9));
            check.due("60 HOURS ahead agree, 61 do not", hour == 119 ? -1 : 1, line.origin(1));
        }
    }

    private static void notBehind(Check check) {
        SwarmLine line = lineWithSwarm();
        for (int day = 3; day < 6; day++) {
            line.weather(day, 18, 0);
        }
        line.hours(13);
        line.hive(8, 13, 20000, 1000, 0);
        line.hours(70);
        have(line, "at 8 13");
        check.due("HAD at 84", 84, line.swarm(0, 9));
        check.due("HIVE 1 swarmed at 84", 84, line.look(1, 4));
        check.due("in the same HOUR is not behind", -1, line.origin(0));

        SwarmLine later = lineWithSwarm();
        for (int day = 3; day < 6; day++) {
            later.weather(day, 18, 0);
        }
        later.hours(13);
        later.hive(8, 13, 20000, 1000, 0);
        later.hours(69);
        have(later, "at 8 13");
        check.due("ahead of the other's", 0, later.origin(0));
        later.hours(1);
        check.due("the other one swarmed behind it", 0, later.origin(0));
        Check.hours(later, 132 - 84);
        check.due("HIVE 0 swarmed again", 132, later.look(0, 4));
        check.due("no HIVE agrees any more", -1, later.origin(0));
    }

    private static void neverSwarmed(Check check) {
        SwarmLine line = lineWithSwarm();
        line.hive(8, 13, 500, 1000, 3);
        line.hours(60);
        have(line, "at 8 13,mark 3");
        check.due("a HIVE that never swarmed does not agree", 0, line.origin(0));
        SwarmLine early = lineWithSwarm();
        early.hive(8, 13, 500, 1000, 0);
        early.hours(60);
        have(early, "at 8 13");
        check.due("nor without a MARK", 0, early.origin(0));
    }
}
