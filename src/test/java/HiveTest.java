/** Promises 6 (hive), 18 (look), 19 (swarm), and what an hour does to hives and swarms. */
public final class HiveTest {
    public static void main(String[] args) {
        Check check = new Check("HiveTest");
        bounds(check);
        twentyAtMost(check);
        lookTells(check);
        growth(check);
        warmDays(check);
        swarms(check);
        ripeness(check);
        placesByBees(check);
        placesAreHeldWithin(check);
        patience(check);
        sixtySwarmsAtMost(check);
        swarmTellsWhatThereIs(check);
        check.finish();
    }

    static void warm(SwarmLine line, int days, int warmth) {
        for (int day = 0; day < days; day++) {
            line.weather(day, warmth, 0);
        }
    }

    private static void bounds(Check check) {
        int[][] wrong = {{-1, 0, 0, 1000, 0}, {20, 0, 0, 1000, 0}, {0, -1, 0, 1000, 0}, {0, 20, 0, 1000, 0},
            {0, 0, -1, 1000, 0}, {0, 0, 100001, 1000, 0}, {0, 0, 0, 999, 0}, {0, 0, 0, 100001, 0},
            {0, 0, 0, 1000, -1}, {0, 0, 0, 1000, 8}, {Integer.MIN_VALUE, 0, 0, 1000, 0}};
        for (int[] n : wrong) {
            SwarmLine line = new SwarmLine();
            check.dueThrowAlone("hive " + java.util.Arrays.toString(n), IllegalArgumentException.class, line,
                    () -> line.hive(n[0], n[1], n[2], n[3], n[4]));
        }
        SwarmLine line = new SwarmLine();
        check.due("least", 0, line.hive(0, 0, 0, 1000, 0));
        check.due("greatest", 1, line.hive(19, 19, 100000, 100000, 7));
    }

    private static void twentyAtMost(Check check) {
        SwarmLine line = new SwarmLine();
        for (int i = 0; i < 20; i++) {
            check.due("hive", i, line.hive(i, i, 0, 1000, 0));
        }
        check.dueThrowAlone("a 21st", UnsupportedOperationException.class, line, () -> line.hive(0, 0, 0, 1000, 0));
        check.dueThrow("a wrong 21st", IllegalArgumentException.class, () -> line.hive(20, 0, 0, 1000, 0));
        check.due("HIVES", 20, line.count(1));
    }

    private static void lookTells(Check check) {
        SwarmLine line = new SwarmLine();
        line.hive(1, 2, 3456, 7890, 5);
        check.dueRow("look", new int[] {3456, 7890, 5, 0, -1}, what -> line.look(0, what));
        check.dueThrow("hive -1", IndexOutOfBoundsException.class, () -> line.look(-1, 9));
        check.dueThrow("hive 1", IndexOutOfBoundsException.class, () -> line.look(1, 0));
        check.dueThrow("what -1", java.util.NoSuchElementException.class, () -> line.look(0, -1));
        check.dueThrow("what 5", java.util.NoSuchElementException.class, () -> line.look(0, 5));
    }

    private static void growth(Check check) {
        SwarmLine line = new SwarmLine();
        line.weather(0, 15, 1);
        line.weather(1, 15, 100);
        line.hive(0, 0, 1999, 100000, 0);
        line.hive(0, 0, 999, 100000, 0);
        line.hive(0, 0, 0, 100000, 0);
        line.hive(0, 0, 99999, 100000, 0);
        line.hours(11);
        check.due("ahead of noon", 1999, line.look(0, 0));
        line.hours(1);
        check.due("at noon", 2000, line.look(0, 0));
        check.due("rounded down", 999, line.look(1, 0));
        check.due("of none", 0, line.look(2, 0));
        check.due("100000 at most", 100000, line.look(3, 0));
        line.hours(23);
        check.due("once a day", 2000, line.look(0, 0));
        line.hours(1);
        check.due("at the next noon", 2200, line.look(0, 0));
        check.due("still 100000", 100000, line.look(3, 0));
        check.due("all BEES", 2200 + 1098 + 100000, line.count(11));
    }

    private static void warmDays(Check check) {
        SwarmLine line = new SwarmLine();
        int[] warmths = {18, 40, 17, 18, 18, 18, 18};
        int[] due = {1, 2, 0, 1, 2, 3, 4};
        for (int day = 0; day < warmths.length; day++) {
            line.weather(day, warmths[day], 0);
        }
        line.hive(5, 5, 1000, 1000, 0);
        line.hours(12);
        for (int day = 0; day < due.length; day++) {
            check.due("WARM at noon of day " + day, due[day], line.look(0, 3));
            line.hours(24);
        }
        check.due("not above its ROOM", 0, line.count(2));
    }

    private static void swarms(Check check) {
        SwarmLine line = new SwarmLine();
        warm(line, 6, 18);
        line.hive(0, 0, 0, 1000, 0);
        line.hive(10, 10, 12345, 6172, 4);
        line.hours(59);
        check.due("ahead of the third noon", 0, line.count(2));
        line.hours(1);
        check.dueRow("swarm", new int[] {0, 1, 6172, 7, 13, 2, 60, 60, -1, -1}, what -> line.swarm(0, what));
        check.dueRow("look", new int[] {6173, 6172, 4, 0, 60}, what -> line.look(1, what));
        check.due("all BEES", 12345, line.count(11));
        line.hours(72);
        check.due("three warm days later", 2, line.count(2));
        // day 5, 6173 BEES: (6 + 5) % 7 - 3, (61 + 5) % 7 - 3, 617 % 9 + 1
        check.dueRow("swarm 1", new int[] {0, 1, 3086, 11, 10, 6, 132, 60, -1, -1}, what -> line.swarm(1, what));
        check.dueRow("look", new int[] {3087, 6172, 4, 0, 132}, what -> line.look(1, what));
    }

    private static void ripeness(Check check) {
        SwarmLine line = new SwarmLine();
        warm(line, 2, 18);
        line.weather(2, 18, 1);
        line.hive(10, 10, 1000, 1000, 0);
        line.hive(10, 10, 1998, 1999, 0);
        line.hours(60);
        check.due("growth comes ahead of the ROOM", 1, line.count(2));
        check.due("the one above its ROOM", 0, line.swarm(0, 1));
        check.due("half of 1001", 500, line.swarm(0, 2));
        check.due("the other half", 501, line.look(0, 0));
        check.due("1999 is not above 1999", 1999, line.look(1, 0));
        check.due("WARM of the other", 3, line.look(1, 3));
    }

    private static void placesByBees(Check check) {
        // x by 1000, y by 100, HEIGHT by 10, all at day 2
        int[][] due = {{5994, 7, 12, 6}, {5999, 7, 12, 6}, {6000, 8, 13, 7}, {6099, 8, 13, 7}, {6100, 8, 7, 8},
            {1001, 10, 12, 2}, {100000, 11, 8, 2}};
        for (int[] d : due) {
            SwarmLine line = new SwarmLine();
            warm(line, 3, 18);
            line.hive(10, 10, d[0], 1000, 0);
            line.hours(60);
            check.due("x by " + d[0], d[1], line.swarm(0, 3));
            check.due("y by " + d[0], d[2], line.swarm(0, 4));
            check.due("HEIGHT by " + d[0], d[3], line.swarm(0, 5));
        }
    }

    private static void placesAreHeldWithin(Check check) {
        SwarmLine line = new SwarmLine();
        warm(line, 3, 18);
        // (5 + 2) % 7 is 0: 3 less; (54 + 2) % 7 is 0: 3 less
        line.hive(1, 2, 5400, 1000, 0);
        // (4 + 2) % 7 is 6: 3 more; (46 + 2) % 7 is 6: 3 more
        line.hive(17, 18, 4600, 1000, 0);
        line.hours(60);
        check.due("x not below 0", 0, line.swarm(0, 3));
        check.due("y not below 0", 0, line.swarm(0, 4));
        check.due("HEIGHT 1", 1, line.swarm(0, 5));
        check.due("x not above 19", 19, line.swarm(1, 3));
        check.due("y not above 19", 19, line.swarm(1, 4));
        check.due("HEIGHT 460 % 9 + 1", 2, line.swarm(1, 5));
    }

    private static void patience(Check check) {
        int[][] due = {{17, 1, 60}, {18, 2, 30}, {24, 2, 30}, {25, 3, 20}};
        for (int[] d : due) {
            SwarmLine line = new SwarmLine();
            warm(line, 3, 18);
            line.weather(3, d[0], 0);
            line.hive(10, 10, 20000, 1000, 0);
            line.hours(71);
            check.due("PATIENCE at 71", 38, line.swarm(0, 7));
            line.hours(1);
            check.due("PATIENCE at 72 by " + d[0], 38 - d[1], line.swarm(0, 7));
        }
        lastHoursOfPatience(check);
    }

    private static void lastHoursOfPatience(Check check) {
        SwarmLine slow = new SwarmLine();
        warm(slow, 3, 18);
        slow.hive(10, 10, 20000, 1000, 0);
        Check.hours(slow, 108);
        check.due("PATIENCE 1", 1, slow.swarm(0, 7));
        check.due("HANGS with 1", 0, slow.swarm(0, 0));
        slow.hours(1);
        check.due("GONE with 0", 2, slow.swarm(0, 0));
        check.due("PATIENCE 0", 0, slow.swarm(0, 7));
        SwarmLine line = new SwarmLine();
        warm(line, 3, 18);
        line.weather(3, 25, 0);
        line.hive(10, 10, 20000, 1000, 0);
        line.hours(83);
        check.due("HANGS with 2", 0, line.swarm(0, 0));
        line.hours(1);
        check.due("GONE", 2, line.swarm(0, 0));
        check.due("PATIENCE as it was last", -1, line.swarm(0, 7));
        check.due("the HOUR", 84, line.swarm(0, 9));
        check.due("no KEEPER", -1, line.swarm(0, 8));
        check.due("all BEES but those that are GONE", 10000, line.count(11));
        line.hours(10);
        check.due("PATIENCE stays", -1, line.swarm(0, 7));
        check.due("the HOUR stays", 84, line.swarm(0, 9));
    }

    private static void sixtySwarmsAtMost(Check check) {
        SwarmLine line = new SwarmLine();
        warm(line, 16, 20);
        for (int i = 0; i < 19; i++) {
            line.hive(i, i, 100000, 1000, 0);
        }
        Check.hours(line, 8 * 24 + 12);
        check.due("three of each", 57, line.count(2));
        line.hours(72);
        check.due("and three more", 60, line.count(2));
        check.due("HIVE of the last one", 2, line.swarm(59, 1));
        check.due("HIVE 2 has a half", 6250, line.look(2, 0));
        check.due("HIVE 3 has all", 12500, line.look(3, 0));
        check.due("HIVE 3 is WARM still", 3, line.look(3, 3));
        check.due("HIVE 3 swarmed last", 204, line.look(3, 4));
        line.hours(72);
        check.due("no more", 60, line.count(2));
        check.due("HIVE 3 is WARM still", 6, line.look(3, 3));
    }

    private static void swarmTellsWhatThereIs(Check check) {
        SwarmLine line = new SwarmLine();
        warm(line, 3, 18);
        line.hive(10, 10, 20000, 1000, 0);
        line.hours(60);
        check.dueThrow("swarm -1", IndexOutOfBoundsException.class, () -> line.swarm(-1, 99));
        check.dueThrow("swarm 1", IndexOutOfBoundsException.class, () -> line.swarm(1, 0));
        check.dueThrow("what -1", java.util.NoSuchElementException.class, () -> line.swarm(0, -1));
        check.dueThrow("what 10", java.util.NoSuchElementException.class, () -> line.swarm(0, 10));
    }
}
