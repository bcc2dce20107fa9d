/** The edges of promise 13, from the call to the keeper's way. */
public final class Edges13SendTest {
    public static void main(String[] args) {
        Edges edges = new Edges("Promise 13");
        edges.of("IndexOutOfBoundsException: there is no such CASE", Edges13SendTest::noSuchCase);
        edges.of("IllegalStateException: the CASE is not OPEN", Edges13SendTest::notOpen);
        edges.of("a call that throws changes nothing", Edges13SendTest::changesNothing);
        edges.of("NONE, and nothing happens but what is told of those asked", Edges13SendTest::nothingHappens);
        edges.of("DISTRICT of a PLACE: y by 5 (rounded down) times 4, and x by 5", Edges13SendTest::districts);
        edges.of("the LINE of its PLACE's DISTRICT in the TURNS", Edges13SendTest::lineOfDistrict);
        edges.of("without such the else LINE", Edges13SendTest::elseLine);
        edges.of("without both none", Edges13SendTest::noLine);
        edges.of("Its KEEPERS are asked one after the other", Edges13SendTest::oneAfterTheOther);
        edges.of("1 NOW is not in its DUTY", Edges13SendTest::notInDuty);
        edges.of("2 it is OUT", Edges13SendTest::isOut);
        edges.of("3 it has no BOX", Edges13SendTest::noBox);
        edges.of("4 its LADDER is below HIGH", Edges13SendTest::ladderBelowHigh);
        edges.of("of these the first that holds", Edges13SendTest::firstThatHolds);
        edges.of("The first with nothing AGAINST is SENT", Edges13SendTest::isSent);
        edges.of("the steps .. by its PACE, rounded up", Edges13SendTest::stepsByPace);
        edges.of("1 at least", Edges13SendTest::oneAtLeast);
        edges.of("far apart by king's steps", Edges13SendTest::kingsSteps);
        edges.finish();
    }

    private static void noSuchCase(Check check) {
        SwarmLine line = Town.withSwarm();
        check.dueThrow("no CASE at all", IndexOutOfBoundsException.class, () -> line.send(0));
        Check.call(line, "at 1 1");
        Check.call(line, "at 9 9");
        int[] none = {-1, 2, Integer.MIN_VALUE, Integer.MAX_VALUE};
        for (int n : none) {
            check.dueThrow("CASE " + n, IndexOutOfBoundsException.class, () -> line.send(n));
        }
        check.due("the last one", 0, line.send(1));
    }

    private static void notOpen(Check check) {
        SwarmLine line = Town.withSwarm();
        Town.callAndSend(line, "at 10 10");
        check.due("SENT", 1, line.matter(0, 0));
        check.dueThrow("a SENT one", IllegalStateException.class, () -> line.send(0));
        line.hours(1);
        check.due("DONE", 2, line.matter(0, 0));
        check.dueThrow("a DONE one", IllegalStateException.class, () -> line.send(0));
        line.hours(1);
        Town.callAndSend(line, "at 10 10");
        line.hours(1);
        check.due("FALSE", 3, line.matter(1, 0));
        check.dueThrow("a FALSE one", IllegalStateException.class, () -> line.send(1));
        SwarmLine again = Town.ripe();
        Town.hiveFor(again, 10, 10, 2, 0);
        again.keeper(10, 10, 1, 1, 1, 0, 23);
        Check.rota(again, "else:0");
        again.hours(60);
        Town.callAndSend(again, "at 10 10");
        again.hours(1);
        check.due("one that is OPEN again", -1, again.send(0));
    }

    private static void changesNothing(Check check) {
        SwarmLine line = Town.withSwarm();
        Town.keeperAt(line, 0, 0, 1);
        Check.rota(line, "else:0 1");
        Check.call(line, "at 10 10");
        check.dueThrowAlone("no such CASE", IndexOutOfBoundsException.class, line, () -> line.send(1));
        line.send(0);
        check.dueThrowAlone("a SENT one", IllegalStateException.class, line, () -> line.send(0));
        check.due("KEEPER 1 is at HOME", 0, line.crew(1, 0));
    }

    private static void nothingHappens(Check check) {
        SwarmLine line = new SwarmLine();
        line.keeper(0, 0, 0, 9, 1, 0, 23);
        Check.rota(line, "else:0");
        Check.call(line, "at 3 4,high 2,since 0,mark 1");
        check.due("send", -1, line.send(0));
        check.dueRow("matter", new int[] {0, 3, 4, 2, 0, 1, 1, 0, -1, -1}, what -> line.matter(0, what));
        check.dueRow("crew", new int[] {0, 0, 0, -1, 0}, what -> line.crew(0, what));
        check.due("asked", 0, line.asked(0, 0));
        check.due("AGAINST", 3, line.asked(0, 1));
        check.due("send again", -1, line.send(0));
    }

    /** Eight districts at a time, each with a keeper of its own; the others have no line. */
    private static void districts(Check check) {
        int[][] parts = {{0, 8}, {8, 16}};
        for (int[] part : parts) {
            StringBuilder text = new StringBuilder();
            for (int district = part[0]; district < part[1]; district++) {
                text.append(district == part[0] ? "" : ";").append("in ").append(district).append(":")
                        .append(district - part[0]);
            }
            int[] edges = {0, 4, 5, 9, 10, 14, 15, 19};
            for (int x : edges) {
                for (int y : edges) {
                    SwarmLine line = new SwarmLine();
                    for (int i = 0; i < 8; i++) {
                        line.keeper(0, 0, 0, 0, 1, 0, 23);
                    }
                    Check.rota(line, text.toString());
                    Check.call(line, "at " + x + " " + y);
                    line.send(0);
                    int district = y / 5 * 4 + x / 5;
                    boolean told = district >= part[0] && district < part[1];
                    check.due("asked for " + x + " " + y, told ? district - part[0] : -1, line.asked(0, 0));
                }
            }
        }
    }

    private static SwarmLine withBoxless(int many, String turns) {
        SwarmLine line = new SwarmLine();
        for (int i = 0; i < many; i++) {
            line.keeper(0, 0, 0, 0, 1, 0, 23);
        }
        Check.rota(line, turns);
        return line;
    }

    private static void dueAsked(Check check, SwarmLine line, String text, int... due) {
        line.send(Check.call(line, text));
        for (int i = 0; i < due.length; i++) {
            check.due("asked for '" + text + "', " + i, due[i], line.asked(i, 0));
        }
        check.due("nobody more for '" + text + "'", -1, line.asked(due.length, 0));
    }

    private static void lineOfDistrict(Check check) {
        SwarmLine line = withBoxless(4, "else:0;in 5:1 2;in 6:3");
        dueAsked(check, line, "at 5 5", 1, 2);
        dueAsked(check, line, "at 9 9", 1, 2);
        dueAsked(check, line, "at 12 5", 3);
        SwarmLine moved = withBoxless(2, "in 5:0;in 0:1");
        dueAsked(check, moved, "at 5 5,maybe", 0);
        dueAsked(check, moved, "at 4 4", 1);
    }

    private static void elseLine(Check check) {
        SwarmLine line = withBoxless(4, "in 5:1;else:3 0");
        dueAsked(check, line, "at 4 4", 3, 0);
        dueAsked(check, line, "at 19 19", 3, 0);
        dueAsked(check, line, "at 7 7", 1);
    }

    private static void noLine(Check check) {
        SwarmLine line = withBoxless(4, "in 5:1");
        Town.keeperAt(line, 0, 0, 1);
        dueAsked(check, line, "at 0 0");
        check.due("OPEN", 0, line.matter(0, 0));
        check.due("no KEEPER", -1, line.matter(0, 8));
        SwarmLine none = new SwarmLine();
        Town.keeperAt(none, 0, 0, 1);
        dueAsked(check, none, "at 0 0");
    }

    private static void oneAfterTheOther(Check check) {
        SwarmLine line = withBoxless(5, "else:4 2 0 3 1");
        dueAsked(check, line, "at 0 0", 4, 2, 0, 3, 1);
        line.boxes(0, 1);
        dueAsked(check, line, "at 0 0", 4, 2, 0);
    }

    private static int against(SwarmLine line, int aCase) {
        line.send(aCase);
        return line.asked(0, 1);
    }

    private static void notInDuty(Check check) {
        int[][] due = {{7, 1}, {8, 0}, {10, 0}, {11, 1}};
        for (int[] d : due) {
            SwarmLine line = new SwarmLine();
            line.keeper(0, 0, 1, 9, 1, 8, 10);
            Check.rota(line, "else:0");
            line.hours(d[0]);
            Check.call(line, "at 0 0");
            check.due("DUTY 8 to 10 at " + d[0], d[1], against(line, 0));
        }
    }

    private static void isOut(Check check) {
        SwarmLine line = new SwarmLine();
        Town.keeperAt(line, 0, 0, 2);
        Check.rota(line, "else:0");
        Town.callAndSend(line, "at 15 0");
        Check.call(line, "at 0 15");
        check.due("OUT to a CASE", 2, against(line, 1));
        line.hours(2);
        check.due("on the way back", 2, line.crew(0, 0));
        check.due("OUT on the way back", 2, against(line, 1));
        line.hours(1);
        check.due("an HOUR to go", 2, against(line, 1));
        line.hours(1);
        check.due("at HOME", 0, against(line, 1));
    }

    private static void noBox(Check check) {
        SwarmLine line = new SwarmLine();
        Town.keeperAt(line, 0, 0, 0);
        Check.rota(line, "else:0");
        Check.call(line, "at 0 0");
        check.due("none", 3, against(line, 0));
        line.boxes(0, 1);
        check.due("one", 0, against(line, 0));
    }

    private static void ladderBelowHigh(Check check) {
        int[][] due = {{0, 0, 0}, {0, 1, 4}, {1, 1, 0}, {4, 5, 4}, {5, 5, 0}, {8, 9, 4}, {9, 9, 0}};
        for (int[] d : due) {
            SwarmLine line = new SwarmLine();
            line.keeper(0, 0, 1, d[0], 1, 0, 23);
            Check.rota(line, "else:0");
            Check.call(line, "at 0 0" + (d[1] == 0 ? "" : ",high " + d[1]));
            check.due("LADDER " + d[0] + ", HIGH " + d[1], d[2], against(line, 0));
        }
    }

    /** The keepers of the first two kinds are on duty at 0 alone. */
    private static void firstThatHolds(Check check) {
        int[][] keepers = {{0, 0, 1, 1}, {0, 0, 0, 1}, {0, 23, 0, 3}, {0, 23, 1, 4}};
        for (int[] k : keepers) {
            SwarmLine line = new SwarmLine();
            line.keeper(0, 0, k[2], 0, 1, k[0], k[1]);
            Check.rota(line, "else:0");
            line.hours(1);
            Check.call(line, "at 0 0,high 9");
            check.due("AGAINST at 1", k[3], against(line, 0));
        }
        int[][] duties = {{0, 0, 1}, {0, 23, 2}};
        for (int[] d : duties) {
            SwarmLine line = new SwarmLine();
            line.keeper(0, 0, 1, 0, 1, d[0], d[1]);
            Check.rota(line, "else:0");
            Town.callAndSend(line, "at 19 19");
            line.hours(1);
            Check.call(line, "at 0 0,high 9");
            check.due("AGAINST one who is OUT", d[2], against(line, 1));
        }
        SwarmLine boxless = Town.ripe();
        Town.hiveFor(boxless, 10, 10, 2, 0);
        boxless.keeper(10, 10, 1, 2, 1, 0, 23);
        Check.rota(boxless, "else:0");
        boxless.hours(60);
        Town.callAndSend(boxless, "at 10 10");
        boxless.hours(1);
        Check.call(boxless, "at 10 10,high 9");
        check.due("OUT, no BOX, LADDER below", 2, against(boxless, 1));
        boxless.hours(1);
        check.due("no BOX, LADDER below", 3, against(boxless, 1));
        boxless.boxes(0, 1);
        check.due("LADDER below", 4, against(boxless, 1));
    }

    private static void isSent(Check check) {
        SwarmLine line = new SwarmLine();
        Town.keeperAt(line, 0, 0, 0);
        Town.keeperAt(line, 9, 0, 3);
        Town.keeperAt(line, 0, 0, 3);
        Check.rota(line, "else:0 1 2");
        Check.call(line, "at 0 0");
        check.due("send", 1, line.send(0));
        check.dueRow("crew 1", new int[] {1, 3, 1, 0, 0}, what -> line.crew(1, what));
        check.dueRow("crew 2", new int[] {0, 3, 0, -1, 0}, what -> line.crew(2, what));
        check.due("the CASE is SENT", 1, line.matter(0, 0));
        check.due("the KEEPER SENT last", 1, line.matter(0, 8));
    }

    private static int way(int x, int y, int pace, String place) {
        SwarmLine line = new SwarmLine();
        line.keeper(x, y, 1, 9, pace, 0, 23);
        Check.rota(line, "else:0");
        Town.callAndSend(line, place);
        return line.crew(0, 2);
    }

    private static void stepsByPace(Check check) {
        // steps, PACE, HOURS
        int[][] due = {{19, 1, 19}, {19, 10, 2}, {10, 10, 1}, {11, 10, 2}, {9, 10, 1}, {6, 3, 2}, {7, 3, 3}, {8, 3, 3},
            {9, 3, 3}, {18, 9, 2}, {19, 9, 3}, {2, 1, 2}, {2, 2, 1}, {3, 2, 2}};
        for (int[] d : due) {
            check.due(d[0] + " steps by " + d[1], d[2], way(0, 0, d[1], "at " + d[0] + " 0"));
        }
    }

    private static void oneAtLeast(Check check) {
        check.due("no step", 1, way(5, 5, 1, "at 5 5"));
        check.due("no step by 10", 1, way(5, 5, 10, "at 5 5"));
        check.due("1 step by 10", 1, way(5, 5, 10, "at 5 6"));
    }

    private static void kingsSteps(Check check) {
        int[][] due = {{0, 0, 5, 5, 5}, {0, 0, 3, 7, 7}, {0, 0, 7, 3, 7}, {19, 19, 0, 0, 19}, {19, 0, 0, 19, 19},
            {5, 9, 2, 8, 3}, {5, 9, 6, 13, 4}};
        for (int[] d : due) {
            check.due(d[0] + " " + d[1] + " to " + d[2] + " " + d[3], d[4], way(d[0], d[1], 1, "at " + d[2] + " " + d[3]));
        }
    }
}
