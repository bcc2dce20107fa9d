/** Promises 13 (send) and 14 (asked), and what a keeper finds at a case. */
public final class SendTest {
    public static void main(String[] args) {
        Check check = new Check("SendTest");
        wrongCases(check);
        districts(check);
        whatIsAgainst(check);
        askedInTurn(check);
        askedByTheLatest(check);
        hadByTheNearest(check);
        tooHigh(check);
        placeAsItIsNow(check);
        otherKeeperAfterwards(check);
        check.finish();
    }

    private static void wrongCases(Check check) {
        SwarmLine line = new SwarmLine();
        check.dueThrow("no CASE", IndexOutOfBoundsException.class, () -> line.send(0));
        line.keeper(0, 0, 1, 0, 1, 0, 23);
        Check.rota(line, "else:0");
        Check.call(line, "at 0 0");
        check.dueThrowAlone("case -1", IndexOutOfBoundsException.class, line, () -> line.send(-1));
        check.dueThrowAlone("case 1", IndexOutOfBoundsException.class, line, () -> line.send(1));
        check.due("send", 0, line.send(0));
        check.dueThrowAlone("a SENT one", IllegalStateException.class, line, () -> line.send(0));
        line.hours(1);
        check.due("FALSE", 3, line.matter(0, 0));
        check.dueThrowAlone("a FALSE one", IllegalStateException.class, line, () -> line.send(0));
    }

    private static void districts(Check check) {
        SwarmLine line = new SwarmLine();
        for (int i = 0; i < 10; i++) {
            line.keeper(0, 0, 0, 0, 1, 0, 23);
        }
        Check.rota(line, "in 0:0;in 1:1;in 3:2;in 4:3;in 5:4;in 11:5;in 12:6;in 14:7;in 15:8;else:9");
        int[][] due = {{0, 0, 0}, {4, 4, 0}, {5, 4, 1}, {19, 0, 2}, {15, 2, 2}, {4, 5, 3}, {9, 9, 4}, {19, 14, 5},
            {0, 19, 6}, {4, 15, 6}, {14, 19, 7}, {15, 15, 8}, {19, 19, 8}, {10, 0, 9}, {10, 10, 9}, {9, 19, 9}};
        for (int i = 0; i < due.length; i++) {
            Check.call(line, "at " + due[i][0] + " " + due[i][1] + ",mark " + (i % 7 + 1));
            check.due("nobody is SENT", -1, line.send(i));
            check.due("the KEEPER for " + due[i][0] + " " + due[i][1], due[i][2], line.asked(0, 0));
        }
        Check.rota(line, "in 7:0");
        check.due("without a LINE", -1, line.send(0));
        check.due("nobody is asked", -1, line.asked(0, 0));
        check.due("OPEN", 0, line.matter(0, 0));
        check.due("no KEEPER was SENT", -1, line.matter(0, 8));
    }

    private static void whatIsAgainst(Check check) {
        SwarmLine line = new SwarmLine();
        line.hours(8);
        line.keeper(10, 10, 0, 0, 1, 9, 7);
        line.keeper(10, 10, 1, 4, 1, 8, 8);
        line.keeper(10, 10, 0, 4, 1, 0, 8);
        line.keeper(10, 10, 1, 4, 1, 8, 23);
        line.keeper(10, 10, 1, 5, 1, 0, 23);
        Check.rota(line, "else:1");
        Check.call(line, "at 0 0");
        check.due("KEEPER 1 is SENT away", 1, line.send(0));
        Check.rota(line, "else:0 1 2 3 4");
        Check.call(line, "at 10 10,high 5");
        check.due("KEEPER 4 is SENT", 4, line.send(1));
        check.dueRow("asked", new int[] {0, 1, 2, 3, 4, -1}, i -> line.asked(i, 0));
        check.dueRow("AGAINST", new int[] {1, 2, 3, 4, 0, -1}, i -> line.asked(i, 1));
        Check.call(line, "at 3 3,high 5");
        check.due("nobody more", -1, line.send(2));
        check.dueRow("AGAINST", new int[] {1, 2, 3, 4, 2, -1}, i -> line.asked(i, 1));
        line.hours(1);
        line.send(2);
        check.dueRow("AGAINST at 9: DUTY ahead of OUT", new int[] {3, 1, 1, 4, 2, -1}, i -> line.asked(i, 1));
        line.hours(1);
        line.send(2);
        check.due("at HOME again", 4, line.asked(4, 0));
        check.due("nothing AGAINST", 0, line.asked(4, 1));
    }

    private static void askedInTurn(Check check) {
        SwarmLine line = new SwarmLine();
        for (int i = 0; i < 4; i++) {
            line.keeper(10, 10, i == 0 ? 0 : 1, 9, 1, 0, 23);
        }
        Check.rota(line, "else:2 0 3 1");
        Check.call(line, "at 1 1");
        Check.call(line, "at 5 5");
        Check.call(line, "at 9 9");
        check.due("first", 2, line.send(0));
        check.dueRow("asked", new int[] {2, -1}, i -> line.asked(i, 0));
        check.due("then", 3, line.send(1));
        check.dueRow("asked", new int[] {2, 0, 3, -1}, i -> line.asked(i, 0));
        check.dueRow("AGAINST", new int[] {2, 3, 0, -1}, i -> line.asked(i, 1));
        check.due("then", 1, line.send(2));
        check.dueRow("asked", new int[] {2, 0, 3, 1, -1}, i -> line.asked(i, 0));
        check.dueRow("matter", new int[] {1, 9, 9, 0, -1, 0, 1, 0, 1, -1}, what -> line.matter(2, what));
        check.dueRow("crew", new int[] {1, 1, 9, 0, 0}, what -> line.crew(2, what));
        check.dueRow("crew", new int[] {1, 1, 5, 1, 0}, what -> line.crew(3, what));
        check.dueRow("crew", new int[] {1, 1, 1, 2, 0}, what -> line.crew(1, what));
        check.dueRow("crew", new int[] {0, 0, 0, -1, 0}, what -> line.crew(0, what));
    }

    private static void askedByTheLatest(Check check) {
        SwarmLine line = new SwarmLine();
        line.keeper(0, 0, 0, 0, 1, 0, 23);
        Check.rota(line, "in 0:0");
        Check.call(line, "at 0 0");
        Check.call(line, "at 19 19");
        line.send(0);
        check.dueThrow("no such CASE", IndexOutOfBoundsException.class, () -> line.send(2));
        check.due("that one threw", 0, line.asked(0, 0));
        check.due("what 1", 3, line.asked(0, 1));
        int[] others = {-1, 2, Integer.MIN_VALUE, Integer.MAX_VALUE};
        for (int other : others) {
            check.due("what " + other, -1, line.asked(0, other));
            check.due("number " + other, -1, line.asked(other, 0));
        }
        line.send(1);
        check.due("nobody was asked by the latest", -1, line.asked(0, 0));
    }

    /** A line on which swarms hang at the places given, all at 60, by days of 18. */
    private static SwarmLine lineWithSwarms(int[][] hives) {
        SwarmLine line = new SwarmLine();
        HiveTest.warm(line, 3, 18);
        for (int[] h : hives) {
            line.hive(h[0], h[1], h[2], 1000, 0);
        }
        line.hours(60);
        return line;
    }

    private static void hadByTheNearest(Check check) {
        // 1000 BEES: 0 and 2 steps off by x and by y (1 + 2 - 3 and (10 + 2) % 7 - 3), HEIGHT 2 (100 % 9 + 1);
        // the hive's ROOM is 1000, so 1001 BEES hang alike
        int[][] hives = {{9, 7, 1001}, {11, 9, 1001}, {10, 8, 1001}, {10, 8, 1001}, {12, 8, 1001}};
        SwarmLine line = lineWithSwarms(hives);
        check.dueRow("x of the SWARMS", new int[] {9, 11, 10, 10, 12}, i -> line.swarm(i, 3));
        check.dueRow("y of the SWARMS", new int[] {9, 11, 10, 10, 10}, i -> line.swarm(i, 4));
        line.keeper(10, 10, 5, 2, 1, 0, 23);
        Check.rota(line, "else:0");
        int[] order = {2, 3, 0, 1};
        for (int i = 0; i < order.length; i++) {
            Check.call(line, "at 10 10");
            line.send(i);
            line.hours(1);
            check.due("the nearest, the least number", order[i], line.matter(i, 9));
            check.due("DONE", 2, line.matter(i, 0));
            check.due("HAD", 1, line.swarm(order[i], 0));
            check.due("by KEEPER 0", 0, line.swarm(order[i], 8));
            check.due("at", 61 + 2 * i, line.swarm(order[i], 9));
            check.dueRow("crew", new int[] {2, 4 - i, 1, i, i + 1}, what -> line.crew(0, what));
            line.hours(1);
        }
        Check.call(line, "at 10 10");
        line.send(4);
        line.hours(1);
        check.due("2 steps are too far", 3, line.matter(4, 0));
        check.due("no SWARM", -1, line.matter(4, 9));
        check.due("a BOX is left", 1, line.crew(0, 1));
        check.due("that one HANGS", 0, line.swarm(4, 0));
    }

    private static void tooHigh(Check check) {
        SwarmLine line = lineWithSwarms(new int[][] {{10, 8, 1001}});
        check.due("HEIGHT", 2, line.swarm(0, 5));
        line.keeper(10, 10, 1, 1, 1, 0, 23);
        line.keeper(10, 10, 1, 2, 1, 0, 23);
        Check.rota(line, "else:0 1");
        Check.call(line, "at 10 10,high 1");
        check.due("KEEPER 0 goes", 0, line.send(0));
        Check.call(line, "at 10 10");
        line.hours(1);
        check.dueRow("matter", new int[] {0, 10, 10, 2, -1, 0, 2, 60, 0, -1}, what -> line.matter(0, what));
        check.dueRow("crew", new int[] {2, 1, 1, 0, 0}, what -> line.crew(0, what));
        check.due("KEEPER 1 goes", 1, line.send(0));
        check.due("OUT on the way back", 2, line.asked(0, 1));
        check.due("the KEEPER SENT last", 1, line.matter(0, 8));
        line.hours(1);
        check.due("HAD", 1, line.swarm(0, 0));
        check.due("by KEEPER 1", 1, line.swarm(0, 8));

        SwarmLine told = lineWithSwarms(new int[][] {{10, 8, 1001}});
        told.keeper(10, 10, 1, 1, 1, 0, 23);
        Check.rota(told, "else:0");
        Check.call(told, "at 10 10");
        told.send(0);
        Check.call(told, "at 10 10,high 7");
        told.hours(1);
        check.due("OPEN again", 0, told.matter(0, 0));
        check.due("HIGH stays the greatest", 7, told.matter(0, 3));
    }

    private static void placeAsItIsNow(Check check) {
        SwarmLine line = lineWithSwarms(new int[][] {{10, 8, 1001}});
        line.keeper(8, 10, 1, 9, 1, 0, 23);
        Check.rota(line, "else:0");
        Check.call(line, "at 8 10,maybe");
        line.send(0);
        check.due("HOURS to the PLACE as it was", 1, line.crew(0, 2));
        Check.call(line, "at 9 10");
        line.hours(1);
        check.due("found by the PLACE as it is now", 2, line.matter(0, 0));
        check.due("HOURS back as it had to it", 1, line.crew(0, 2));
    }

    private static void otherKeeperAfterwards(Check check) {
        SwarmLine line = lineWithSwarms(new int[][] {{10, 8, 1001}, {10, 8, 1001}});
        line.keeper(10, 10, 1, 9, 1, 0, 23);
        Check.rota(line, "else:0");
        Check.call(line, "at 10 10");
        line.send(0);
        line.hours(2);
        check.due("at HOME", 0, line.crew(0, 0));
        Check.call(line, "at 10 10");
        check.due("nobody has a BOX", -1, line.send(1));
        check.due("no BOX", 3, line.asked(0, 1));
        line.boxes(0, 1);
        check.due("with a BOX", 0, line.send(1));
        line.hours(1);
        check.due("SWARMS had", 2, line.crew(0, 4));
        check.due("its CASE", 1, line.crew(0, 3));
    }
}
