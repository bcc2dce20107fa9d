/** The edges of promise 13 in what a keeper finds at its case. */
public final class Edges13FindTest {
    public static void main(String[] args) {
        Edges edges = new Edges("Promise 13 (A KEEPER at its CASE)");
        edges.of("of the SWARMS that HANG", Edges13FindTest::onlyThoseThatHang);
        edges.of("at most 1 step from the CASE's PLACE", Edges13FindTest::oneStep);
        edges.of("(as it is now)", Edges13FindTest::placeAsItIsNow);
        edges.of("the nearest", Edges13FindTest::nearest);
        edges.of("of several the least number", Edges13FindTest::leastNumber);
        edges.of("if its HEIGHT is not above the KEEPER's LADDER it is HAD", Edges13FindTest::notAbove);
        edges.of("the KEEPER has one BOX less", Edges13FindTest::boxLess);
        edges.of("and the CASE is DONE", Edges13FindTest::isDone);
        edges.of("else the CASE is OPEN again", Edges13FindTest::openAgain);
        edges.of("and HIGH at least that HEIGHT", Edges13FindTest::highAtLeast);
        edges.of("(the nearest is too high, another one is not)", Edges13FindTest::nearestIsTooHigh);
        edges.of("Without one the CASE is FALSE", Edges13FindTest::isFalse);
        edges.finish();
    }

    /** Swarms at x y height, and keeper 0 who lives at 10 10. */
    private static SwarmLine with(int ladder, int[][] swarms) {
        SwarmLine line = Town.ripe();
        for (int[] s : swarms) {
            Town.hiveFor(line, s[0], s[1], s[2], 0);
        }
        line.keeper(10, 10, 5, ladder, 10, 0, 23);
        Check.rota(line, "else:0");
        line.hours(60);
        return line;
    }

    private static SwarmLine gone(int ladder, int[][] swarms, String text) {
        SwarmLine line = with(ladder, swarms);
        Town.callAndSend(line, text);
        line.hours(1);
        return line;
    }

    private static void onlyThoseThatHang(Check check) {
        SwarmLine line = gone(9, new int[][] {{10, 10, 2}, {11, 11, 3}}, "at 10 10");
        check.due("the first", 0, line.matter(0, 9));
        line.hours(1);
        Town.callAndSend(line, "at 10 10");
        line.hours(1);
        check.due("not the one HAD", 1, line.matter(1, 9));
        SwarmLine late = with(9, new int[][] {{10, 10, 2}});
        late.hours(49);
        check.due("GONE", 2, late.swarm(0, 0));
        Town.callAndSend(late, "at 10 10");
        late.hours(1);
        check.due("not one that is GONE", 3, late.matter(0, 0));
    }

    private static void oneStep(Check check) {
        for (int x = 8; x <= 12; x++) {
            for (int y = 8; y <= 12; y++) {
                SwarmLine line = gone(9, new int[][] {{x, y, 2}}, "at 10 10");
                int steps = Math.max(Math.abs(x - 10), Math.abs(y - 10));
                check.due("a SWARM at " + x + " " + y, steps <= 1 ? 2 : 3, line.matter(0, 0));
            }
        }
    }

    private static void placeAsItIsNow(Check check) {
        SwarmLine line = with(9, new int[][] {{12, 10, 2}});
        Town.callAndSend(line, "at 10 10,maybe");
        Check.call(line, "at 11 10");
        line.hours(1);
        check.due("it has come near", 2, line.matter(0, 0));
        check.due("as many HOURS back", 1, line.crew(0, 2));
        SwarmLine away = with(9, new int[][] {{9, 10, 2}});
        Town.callAndSend(away, "at 10 10,maybe");
        Check.call(away, "at 11 10");
        away.hours(1);
        check.due("it has gone away", 3, away.matter(0, 0));
        SwarmLine far = Town.ripe();
        far.keeper(0, 10, 1, 9, 1, 0, 23);
        Check.rota(far, "else:0");
        Town.callAndSend(far, "at 3 10,maybe");
        Check.call(far, "at 4 10");
        check.due("HOURS to go stay", 3, far.crew(0, 2));
        far.hours(3);
        check.due("HOURS back as it had to the CASE", 3, far.crew(0, 2));
    }

    private static void nearest(Check check) {
        SwarmLine line = gone(9, new int[][] {{9, 9, 2}, {10, 10, 3}}, "at 10 10");
        check.due("no step ahead of 1 step", 1, line.matter(0, 9));
        check.due("the other one HANGS", 0, line.swarm(0, 0));
    }

    private static void leastNumber(Check check) {
        SwarmLine line = gone(9, new int[][] {{11, 11, 2}, {9, 9, 3}, {10, 9, 4}}, "at 10 10");
        check.due("of three at 1 step", 0, line.matter(0, 9));
        SwarmLine same = gone(9, new int[][] {{9, 9, 2}, {10, 10, 3}, {10, 10, 4}}, "at 10 10");
        check.due("of two at no step", 1, same.matter(0, 9));
    }

    private static void notAbove(Check check) {
        int[][] due = {{1, 1, 1}, {0, 1, 0}, {2, 2, 1}, {1, 2, 0}, {9, 9, 1}, {8, 9, 0}, {9, 1, 1}};
        for (int[] d : due) {
            SwarmLine line = gone(d[0], new int[][] {{10, 10, d[1]}}, "at 10 10");
            check.due("HEIGHT", d[1], line.swarm(0, 5));
            check.due("LADDER " + d[0] + ", HEIGHT " + d[1], d[2], line.swarm(0, 0));
        }
    }

    private static void boxLess(Check check) {
        SwarmLine line = gone(9, new int[][] {{10, 10, 2}}, "at 10 10");
        check.due("BOXES", 4, line.crew(0, 1));
        check.due("SWARMS it had", 1, line.crew(0, 4));
        SwarmLine high = gone(1, new int[][] {{10, 10, 2}}, "at 10 10");
        check.due("BOXES, too high", 5, high.crew(0, 1));
        SwarmLine none = gone(9, new int[][] {}, "at 10 10");
        check.due("BOXES, no SWARM", 5, none.crew(0, 1));
        SwarmLine last = Town.ripe();
        Town.hiveFor(last, 10, 10, 2, 0);
        Town.keeperAt(last, 10, 10, 1);
        Check.rota(last, "else:0");
        last.hours(60);
        Town.callAndSend(last, "at 10 10");
        last.hours(1);
        check.due("the last BOX", 0, last.crew(0, 1));
    }

    private static void isDone(Check check) {
        SwarmLine line = gone(9, new int[][] {{10, 10, 2}}, "at 10 10,high 1");
        check.dueRow("matter", new int[] {2, 10, 10, 1, -1, 0, 1, 60, 0, 0}, what -> line.matter(0, what));
        check.dueRow("swarm", new int[] {1, 0, 500, 10, 10, 2, 60, 58, 0, 61}, what -> line.swarm(0, what));
    }

    private static void openAgain(Check check) {
        SwarmLine line = gone(1, new int[][] {{10, 10, 2}}, "at 10 10");
        check.due("OPEN", 0, line.matter(0, 0));
        check.due("no SWARM", -1, line.matter(0, 9));
        check.due("the KEEPER SENT last", 0, line.matter(0, 8));
        check.due("HANGS", 0, line.swarm(0, 0));
        check.due("no KEEPER has it", -1, line.swarm(0, 8));
        check.due("on the way back", 2, line.crew(0, 0));
        check.due("a CALL is of it", 0, Check.call(line, "at 10 10"));
    }

    private static void highAtLeast(Check check) {
        SwarmLine line = gone(1, new int[][] {{10, 10, 2}}, "at 10 10");
        check.due("none told", 2, line.matter(0, 3));
        SwarmLine less = gone(1, new int[][] {{10, 10, 2}}, "at 10 10,high 1");
        check.due("1 told", 2, less.matter(0, 3));
        Check.call(less, "at 10 10,high 1");
        check.due("1 told again", 2, less.matter(0, 3));
        SwarmLine more = with(1, new int[][] {{10, 10, 2}});
        Town.callAndSend(more, "at 10 10");
        Check.call(more, "at 10 10,high 7");
        more.hours(1);
        check.due("7 told on the way", 7, more.matter(0, 3));
        check.due("OPEN all the same", 0, more.matter(0, 0));
        SwarmLine top = gone(8, new int[][] {{10, 10, 9}}, "at 10 10");
        check.due("the greatest HEIGHT", 9, top.matter(0, 3));
    }

    private static void nearestIsTooHigh(Check check) {
        SwarmLine line = gone(3, new int[][] {{9, 10, 2}, {10, 10, 4}}, "at 10 10");
        check.due("OPEN", 0, line.matter(0, 0));
        check.due("HIGH", 4, line.matter(0, 3));
        check.due("none is HAD", 0, line.count(8));
    }

    private static void isFalse(Check check) {
        SwarmLine line = gone(9, new int[][] {}, "at 10 10,high 3");
        check.dueRow("matter", new int[] {3, 10, 10, 3, -1, 0, 1, 60, 0, -1}, what -> line.matter(0, what));
        check.due("on the way back", 2, line.crew(0, 0));
        check.due("SWARMS it had", 0, line.crew(0, 4));
    }
}
