/** The edges of promise 5. */
public final class Edges05ForetellTest {
    public static void main(String[] args) {
        Edges edges = new Edges("Promise 5");
        edges.of("The bounds FORETOLD of a DAY", Edges05ForetellTest::ofThatDayAlone);
        edges.of("IndexOutOfBoundsException: there is no such DAY", Edges05ForetellTest::noSuchDay);
        edges.of("IllegalArgumentException: a number is no WARMTH", Edges05ForetellTest::noWarmth);
        edges.of("IllegalArgumentException: .. the least one is above the greatest", Edges05ForetellTest::leastAbove);
        edges.of("(no IllegalStateException: a DAY that is, or was, may be foretold)", Edges05ForetellTest::pastDays);
        edges.of("Of several exceptions the one told first is thrown", Edges05ForetellTest::toldFirst);
        edges.of("a call that throws changes nothing", Edges05ForetellTest::changesNothing);
        edges.finish();
    }

    private static void ofThatDayAlone(Check check) {
        SwarmLine line = new SwarmLine();
        Check.call(line, "at 0 0,since 0");
        line.foretell(1, 17, 17);
        check.due("23 and 24 HOURS by 1, then by 3", 47 + 5, line.left(0, true));
        line.foretell(2, 18, 18);
        check.due("then by 2", 47 + 7, line.left(0, true));
        check.due("then by 2, greatest", 47 + 7, line.left(0, false));
        line.foretell(0, 40, 40);
        check.due("NOW's DAY is known", 47 + 7, line.left(0, true));
        SwarmLine later = new SwarmLine();
        later.hours(20);
        Check.call(later, "at 0 0,since 20");
        later.foretell(1, 18, 18);
        check.due("3 HOURS by 1, 24 by 2, then by 3", 47 + 3, later.left(0, true));
        check.due("3 HOURS by 1, 24 by 2, then by 1", 47 + 9, later.left(0, false));
    }

    private static void noSuchDay(Check check) {
        SwarmLine line = new SwarmLine();
        int[] none = {-1, 31, Integer.MIN_VALUE, Integer.MAX_VALUE};
        for (int day : none) {
            check.dueThrow("DAY " + day, IndexOutOfBoundsException.class, () -> line.foretell(day, 0, 0));
        }
        line.foretell(0, 0, 0);
        line.foretell(30, 0, 0);
    }

    private static void noWarmth(Check check) {
        SwarmLine line = new SwarmLine();
        int[][] none = {{-21, 0}, {-21, -21}, {Integer.MIN_VALUE, 0}, {0, 41}, {41, 41}, {0, Integer.MAX_VALUE},
            {Integer.MIN_VALUE, Integer.MAX_VALUE}};
        for (int[] n : none) {
            check.dueThrow(n[0] + " to " + n[1], IllegalArgumentException.class, () -> line.foretell(1, n[0], n[1]));
        }
        line.foretell(1, -20, 40);
        line.foretell(1, -20, -20);
        line.foretell(1, 40, 40);
    }

    private static void leastAbove(Check check) {
        SwarmLine line = new SwarmLine();
        int[][] none = {{1, 0}, {40, -20}, {-19, -20}, {40, 39}};
        for (int[] n : none) {
            check.dueThrow(n[0] + " to " + n[1], IllegalArgumentException.class, () -> line.foretell(1, n[0], n[1]));
        }
        line.foretell(1, 0, 0);
        line.foretell(1, 0, 1);
    }

    private static void pastDays(Check check) {
        SwarmLine line = new SwarmLine();
        line.foretell(0, 1, 2);
        line.hours(100);
        line.foretell(0, 1, 2);
        line.foretell(3, 1, 2);
        line.foretell(4, 1, 2);
        Check.hours(line, 643);
        line.foretell(30, 18, 18);
        Check.call(line, "at 0 0,since 743");
        check.due("foretold at 743", 743 + 30, line.left(0, true));
    }

    private static void toldFirst(Check check) {
        SwarmLine line = new SwarmLine();
        check.dueThrow("no DAY, no WARMTH", IndexOutOfBoundsException.class, () -> line.foretell(-1, -21, 41));
        check.dueThrow("no DAY, least above", IndexOutOfBoundsException.class, () -> line.foretell(31, 1, 0));
    }

    private static void changesNothing(Check check) {
        SwarmLine line = new SwarmLine();
        Check.call(line, "at 0 0,since 0");
        line.foretell(1, 17, 18);
        int[][] none = {{30, 41}, {-21, 17}, {30, 29}};
        for (int[] n : none) {
            check.dueThrow(n[0] + " to " + n[1], IllegalArgumentException.class, () -> line.foretell(1, n[0], n[1]));
            check.due("least", 23 + 19, line.left(0, true));
            check.due("greatest", 60, line.left(0, false));
        }
    }
}
