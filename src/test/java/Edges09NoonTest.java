/** The edges of promise 9 in what an hour does to hives (2c). */
public final class Edges09NoonTest {
    public static void main(String[] args) {
        Edges edges = new Edges("Promise 9 (c)");
        edges.of("If NOW by 24 leaves 12", Edges09NoonTest::atNoon);
        edges.of("BEES are more by BEES times BLOOM by 1000, rounded down", Edges09NoonTest::growth);
        edges.of("(100000 at most)", Edges09NoonTest::mostBees);
        edges.of("WARM is one more if the WARMTH of the DAY is 18 or more, else 0", Edges09NoonTest::warmDays);
        edges.of("If BEES are above ROOM", Edges09NoonTest::aboveRoom);
        edges.of("If BEES are above ROOM then", Edges09NoonTest::aboveRoomThen);
        edges.of("and WARM is 3 or more", Edges09NoonTest::warmEnough);
        edges.of("and there are fewer than 60 SWARMS", Edges09NoonTest::sixtySwarms);
        edges.of("each HIVE, by numbers", Edges09NoonTest::byNumbers);
        edges.of("half of its BEES (rounded down) are a new SWARM", Edges09NoonTest::halfOfBees);
        edges.of("with PATIENCE 60, LEFT NOW", Edges09NoonTest::patienceAndLeft);
        edges.of("its x is .. by 7, what is left of it, less 3", Edges09NoonTest::placeByX);
        edges.of("y likewise with BEES by 100", Edges09NoonTest::placeByY);
        edges.of("and the DAY", Edges09NoonTest::placeByDay);
        edges.of("HEIGHT is BEES by 10, by 9 what is left of it, and 1", Edges09NoonTest::height);
        edges.of("(BEES as they were ahead of it)", Edges09NoonTest::beesAheadOfIt);
        edges.of("x and y held within 0 and 19", Edges09NoonTest::heldWithin);
        edges.of("the HIVE has the other half, WARM 0", Edges09NoonTest::otherHalf);
        edges.finish();
    }

    private static void atNoon(Check check) {
        SwarmLine line = new SwarmLine();
        line.hive(0, 0, 1000, 100000, 0);
        int[][] due = {{11, 1000}, {1, 1050}, {1, 1050}, {11, 1050}, {11, 1050}, {1, 1102}, {1, 1102}};
        for (int[] d : due) {
            int now = line.hours(d[0]);
            check.due("BEES at " + now, d[1], line.look(0, 0));
        }
        Check.hours(line, 731 - 37);
        int ahead = line.look(0, 0);
        line.hours(1);
        check.due("BEES at 732", ahead + ahead * 50 / 1000, line.look(0, 0));
        int last = line.look(0, 0);
        line.hours(11);
        check.due("BEES at 743", last, line.look(0, 0));
    }

    private static void dueGrowth(Check check, int bees, int bloom, int due) {
        SwarmLine line = new SwarmLine();
        line.weather(0, 15, bloom);
        line.hive(0, 0, bees, 100000, 0);
        line.hours(12);
        check.due(bees + " BEES by BLOOM " + bloom, due, line.look(0, 0));
    }

    private static void growth(Check check) {
        int[][] due = {{999, 1, 999}, {1000, 1, 1001}, {1999, 1, 2000}, {2000, 1, 2002}, {0, 100, 0}, {9, 100, 9},
            {10, 100, 11}, {19, 100, 20}, {50000, 0, 50000}, {1000, 100, 1100}};
        for (int[] d : due) {
            dueGrowth(check, d[0], d[1], d[2]);
        }
    }

    private static void mostBees(Check check) {
        int[][] due = {{90909, 100, 99999}, {90910, 100, 100000}, {99900, 1, 99999}, {99901, 1, 100000},
            {99999, 100, 100000}, {100000, 100, 100000}, {100000, 0, 100000}};
        for (int[] d : due) {
            dueGrowth(check, d[0], d[1], d[2]);
        }
    }

    private static void warmDays(Check check) {
        int[] warmths = {18, 17, 18, 40, 25, 18, -20, 18};
        int[] due = {1, 0, 1, 2, 3, 4, 0, 1};
        SwarmLine line = new SwarmLine();
        for (int day = 0; day < warmths.length; day++) {
            line.weather(day, warmths[day], 0);
        }
        line.hive(0, 0, 1000, 1000, 0);
        line.hours(11);
        check.due("WARM at 11", 0, line.look(0, 3));
        line.hours(1);
        for (int day = 0; day < due.length; day++) {
            check.due("WARM at noon of DAY " + day, due[day], line.look(0, 3));
            line.hours(24);
        }
    }

    private static void aboveRoom(Check check) {
        int[][] due = {{1000, 1000, 0}, {1001, 1000, 1}, {999, 1000, 0}, {50000, 50000, 0}, {50001, 50000, 1},
            {100000, 100000, 0}, {100000, 99999, 1}, {0, 1000, 0}};
        for (int[] d : due) {
            SwarmLine line = Town.ripe();
            line.hive(0, 0, d[0], d[1], 0);
            line.hours(60);
            check.due(d[0] + " BEES, ROOM " + d[1], d[2], line.count(2));
        }
    }

    private static void aboveRoomThen(Check check) {
        SwarmLine line = Town.ripe();
        line.weather(2, 18, 1);
        line.hive(0, 0, 1000, 1000, 0);
        line.hours(60);
        check.due("1001 at the third noon", 1, line.count(2));
        check.due("half of 1001", 500, line.swarm(0, 2));
    }

    private static void warmEnough(Check check) {
        SwarmLine line = Town.warm(2, 18);
        line.hive(0, 0, 5000, 1000, 0);
        line.hours(59);
        check.due("WARM 2", 2, line.look(0, 3));
        line.hours(1);
        check.due("not at WARM 0", 0, line.count(2));
        SwarmLine third = Town.ripe();
        third.hive(0, 0, 5000, 1000, 0);
        third.hours(59);
        check.due("not at WARM 2", 0, third.count(2));
        third.hours(1);
        check.due("at WARM 3", 1, third.count(2));
        SwarmLine sixth = Town.warm(6, 18);
        sixth.weather(5, 18, 1);
        sixth.hive(0, 0, 1000, 1000, 0);
        Check.hours(sixth, 131);
        check.due("WARM 5", 5, sixth.look(0, 3));
        sixth.hours(1);
        check.due("at WARM 6", 1, sixth.count(2));
    }

    /** 19 hives swarm at 60, 132 and 204, and three of them at 276. */
    private static SwarmLine withSixtySwarms() {
        SwarmLine line = Town.warm(31, 20);
        for (int i = 0; i < 19; i++) {
            line.hive(i, i, 100000, 1000, 0);
        }
        Check.hours(line, 276);
        return line;
    }

    private static void sixtySwarms(Check check) {
        SwarmLine line = withSixtySwarms();
        check.due("SWARMS", 60, line.count(2));
        check.due("all of them are GONE or HANG", 60, line.count(7) + line.count(9));
        check.dueRow("the first HIVE that may not", new int[] {12500, 1000, 0, 3, 204}, what -> line.look(3, what));
        check.dueRow("the last HIVE that may", new int[] {6250, 1000, 0, 0, 276}, what -> line.look(2, what));
        line.hours(100);
        line.hours(100);
        check.due("no SWARM HANGS", 0, line.count(7));
        check.due("60 for good", 60, line.count(2));
        check.due("BEES stay", 12500, line.look(3, 0));
        check.due("WARM goes on", 3 + 8, line.look(3, 3));
    }

    private static void byNumbers(Check check) {
        SwarmLine line = withSixtySwarms();
        check.dueRow("HIVES of the first SWARMS", new int[] {0, 1, 2, 3}, i -> line.swarm(i, 1));
        check.dueRow("HIVES of the last SWARMS", new int[] {17, 18, 0, 1, 2}, i -> line.swarm(55 + i, 1));
    }

    /** The swarm of a hive at x y that swarms at 60. */
    private static SwarmLine swarmOf(int x, int y, int bees) {
        SwarmLine line = Town.ripe();
        line.hive(x, y, bees, 1000, 0);
        line.hours(60);
        return line;
    }

    private static void halfOfBees(Check check) {
        int[][] due = {{1001, 500}, {1002, 501}, {1003, 501}, {99999, 49999}, {100000, 50000}};
        for (int[] d : due) {
            check.due("half of " + d[0], d[1], swarmOf(10, 10, d[0]).swarm(0, 2));
        }
    }

    private static void patienceAndLeft(Check check) {
        SwarmLine line = swarmOf(10, 10, 5000);
        check.due("PATIENCE", 60, line.swarm(0, 7));
        check.due("LEFT", 60, line.swarm(0, 6));
        check.due("the HOUR at which it swarmed last", 60, line.look(0, 4));
        check.due("HANGS", 0, line.swarm(0, 0));
    }

    private static void placeByX(Check check) {
        int[][] due = {{4000, 13}, {4999, 13}, {5000, 7}, {5999, 7}, {6000, 8}, {11000, 13}, {12000, 7}, {1001, 10},
            {100000, 11}};
        for (int[] d : due) {
            check.due("x by " + d[0], d[1], swarmOf(10, 10, d[0]).swarm(0, 3));
        }
    }

    private static void placeByY(Check check) {
        int[][] due = {{5300, 13}, {5399, 13}, {5400, 7}, {5499, 7}, {5500, 8}, {1200, 7}, {1199, 13}, {100000, 8}};
        for (int[] d : due) {
            check.due("y by " + d[0], d[1], swarmOf(10, 10, d[0]).swarm(0, 4));
        }
    }

    private static void placeByDay(Check check) {
        SwarmLine line = Town.warm(31, 18);
        line.hours(13);
        line.hive(10, 10, 5400, 1000, 0);
        line.hours(71);
        check.due("x at DAY 3", 8, line.swarm(0, 3));
        check.due("y at DAY 3", 8, line.swarm(0, 4));
        Check.hours(line, 670 - 84);
        line.hive(10, 10, 100000, 99999, 0);
        Check.hours(line, 732 - 670);
        int last = line.count(2) - 1;
        check.due("LEFT at DAY 30", 732, line.swarm(last, 6));
        check.due("x at DAY 30", 10 + (100 + 30) % 7 - 3, line.swarm(last, 3));
        check.due("y at DAY 30", 10 + (1000 + 30) % 7 - 3, line.swarm(last, 4));
    }

    private static void height(Check check) {
        int[][] due = {{1079, 9}, {1080, 1}, {1089, 1}, {1090, 2}, {1070, 9}, {1069, 8}, {100000, 2}};
        for (int[] d : due) {
            check.due("HEIGHT by " + d[0], d[1], swarmOf(10, 10, d[0]).swarm(0, 5));
        }
    }

    private static void beesAheadOfIt(Check check) {
        SwarmLine line = swarmOf(10, 10, 20001);
        check.dueRow("x, y, HEIGHT by all BEES", new int[] {8, 13, 3}, i -> line.swarm(0, 3 + i));
        SwarmLine grown = Town.ripe();
        grown.weather(2, 18, 100);
        grown.hive(10, 10, 5000, 1000, 0);
        grown.hours(60);
        check.dueRow("x, y, HEIGHT by BEES that have grown", new int[] {7, 8, 2}, i -> grown.swarm(0, 3 + i));
    }

    private static void heldWithin(Check check) {
        // 5400 BEES: 3 less by x and by y; 4600 BEES: 3 more by both
        int[][] due = {{2, 5400, 0}, {3, 5400, 0}, {4, 5400, 1}, {0, 5400, 0}, {15, 4600, 18}, {16, 4600, 19},
            {17, 4600, 19}, {19, 4600, 19}};
        for (int[] d : due) {
            SwarmLine line = swarmOf(d[0], d[0], d[1]);
            check.due("x from " + d[0], d[2], line.swarm(0, 3));
            check.due("y from " + d[0], d[2], line.swarm(0, 4));
        }
    }

    private static void otherHalf(Check check) {
        int[][] due = {{1001, 501}, {1002, 501}, {99999, 50000}};
        for (int[] d : due) {
            SwarmLine line = swarmOf(10, 10, d[0]);
            check.due("BEES left of " + d[0], d[1], line.look(0, 0));
            check.due("WARM", 0, line.look(0, 3));
        }
        SwarmLine again = Town.warm(6, 18);
        again.hive(10, 10, 5000, 1000, 0);
        Check.hours(again, 131);
        check.due("WARM from 0 on", 2, again.look(0, 3));
        check.due("one SWARM at 131", 1, again.count(2));
        again.hours(1);
        check.due("two SWARMS at 132", 2, again.count(2));
    }
}
