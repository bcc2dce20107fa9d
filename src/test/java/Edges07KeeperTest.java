/** The edges of promise 7, and of a keeper's DUTY. */
public final class Edges07KeeperTest {
    public static void main(String[] args) {
        Edges edges = new Edges("Promise 7");
        edges.of("A new KEEPER, at HOME: its number (numbered from 0 on)", Edges07KeeperTest::numbers);
        edges.of("IllegalArgumentException: a number is none (x: 0 to 19)", c -> bounds(c, 0, 0, 19));
        edges.of("IllegalArgumentException: a number is none (y: 0 to 19)", c -> bounds(c, 1, 0, 19));
        edges.of("IllegalArgumentException: a number is none (BOXES: 0 to 20)", c -> bounds(c, 2, 0, 20));
        edges.of("IllegalArgumentException: a number is none (LADDER: 0 to 9)", c -> bounds(c, 3, 0, 9));
        edges.of("IllegalArgumentException: a number is none (PACE: 1 to 10)", c -> bounds(c, 4, 1, 10));
        edges.of("IllegalArgumentException: a number is none (from an HOUR of the day, 0 to 23)", c -> bounds(c, 5, 0, 23));
        edges.of("IllegalArgumentException: a number is none (to another one, 0 to 23)", c -> bounds(c, 6, 0, 23));
        edges.of("UnsupportedOperationException: there are 12", Edges07KeeperTest::twelve);
        edges.of("Of several exceptions the one told first is thrown", Edges07KeeperTest::toldFirst);
        edges.of("a call that throws changes nothing", Edges07KeeperTest::changesNothing);
        edges.of("DUTY: .. both belong to it", Edges07KeeperTest::bothBelong);
        edges.of("DUTY: .. if the first is the greater one it goes over midnight", Edges07KeeperTest::overMidnight);
        edges.of("(DUTY: from an HOUR to the same one)", Edges07KeeperTest::oneHour);
        edges.finish();
    }

    private static int keeper(SwarmLine line, int[] n) {
        return line.keeper(n[0], n[1], n[2], n[3], n[4], n[5], n[6]);
    }

    private static int[] with(int which, int number) {
        int[] numbers = {5, 5, 5, 5, 5, 5, 5};
        numbers[which] = number;
        return numbers;
    }

    private static void numbers(Check check) {
        SwarmLine line = new SwarmLine();
        check.due("the first", 0, line.keeper(3, 4, 2, 0, 1, 0, 0));
        check.due("one more at the same HOME", 1, line.keeper(3, 4, 0, 0, 1, 0, 0));
        check.dueRow("crew", new int[] {0, 2, 0, -1, 0}, what -> line.crew(0, what));
        check.due("KEEPERS", 2, line.count(3));
    }

    private static void bounds(Check check, int which, int least, int greatest) {
        SwarmLine line = new SwarmLine();
        int[] none = {least - 1, greatest + 1, Integer.MIN_VALUE, Integer.MAX_VALUE};
        for (int n : none) {
            check.dueThrow("" + n, IllegalArgumentException.class, () -> keeper(line, with(which, n)));
        }
        check.due("the least", 0, keeper(line, with(which, least)));
        check.due("the greatest", 1, keeper(line, with(which, greatest)));
    }

    private static void twelve(Check check) {
        SwarmLine line = new SwarmLine();
        for (int i = 0; i < 12; i++) {
            check.due("up to 12", i, line.keeper(i, i, i, 0, 1, 0, 0));
        }
        check.dueThrow("a 13th", UnsupportedOperationException.class, () -> line.keeper(0, 0, 0, 0, 1, 0, 0));
    }

    private static void toldFirst(Check check) {
        SwarmLine line = new SwarmLine();
        for (int i = 0; i < 12; i++) {
            line.keeper(0, 0, 0, 0, 1, 0, 0);
        }
        for (int which = 0; which < 7; which++) {
            int[] wrong = with(which, -1);
            check.dueThrow("a 13th with a number that is none", IllegalArgumentException.class,
                    () -> keeper(line, wrong));
        }
    }

    private static void changesNothing(Check check) {
        SwarmLine line = new SwarmLine();
        check.dueThrowAlone("no PACE", IllegalArgumentException.class, line, () -> line.keeper(0, 0, 0, 0, 0, 0, 0));
        check.due("the next number", 0, line.keeper(0, 0, 0, 0, 1, 0, 0));
        for (int i = 1; i < 12; i++) {
            line.keeper(0, 0, 0, 0, 1, 0, 0);
        }
        check.dueThrowAlone("a 13th", UnsupportedOperationException.class, line,
                () -> line.keeper(0, 0, 0, 0, 1, 0, 0));
    }

    /** 1 is AGAINST a keeper without a BOX out of its DUTY, 3 in it. */
    private static void dueDuty(Check check, int from, int to, int[] hours, int due) {
        for (int hour : hours) {
            SwarmLine line = new SwarmLine();
            line.keeper(0, 0, 0, 0, 1, from, to);
            Check.rota(line, "else:0");
            line.hours(hour);
            Check.call(line, "at 0 0");
            line.send(0);
            check.due("DUTY " + from + " to " + to + " at " + hour, due, line.asked(0, 1));
        }
    }

    private static void bothBelong(Check check) {
        dueDuty(check, 5, 7, new int[] {5, 6, 7, 29, 31}, 3);
        dueDuty(check, 5, 7, new int[] {0, 4, 8, 23, 28, 32}, 1);
        dueDuty(check, 0, 23, new int[] {0, 12, 23, 24}, 3);
    }

    private static void overMidnight(Check check) {
        dueDuty(check, 22, 2, new int[] {0, 1, 2, 22, 23, 24, 26, 46}, 3);
        dueDuty(check, 22, 2, new int[] {3, 12, 21, 27, 45}, 1);
        dueDuty(check, 1, 0, new int[] {0, 1, 12, 23, 24}, 3);
        dueDuty(check, 23, 0, new int[] {0, 23, 24}, 3);
        dueDuty(check, 23, 0, new int[] {1, 22, 25}, 1);
    }

    private static void oneHour(Check check) {
        dueDuty(check, 9, 9, new int[] {9, 33}, 3);
        dueDuty(check, 9, 9, new int[] {0, 8, 10, 23, 32, 34}, 1);
        dueDuty(check, 0, 0, new int[] {0, 24}, 3);
        dueDuty(check, 0, 0, new int[] {1, 23, 25}, 1);
    }
}
