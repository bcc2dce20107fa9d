/** The edges of promise 6. */
public final class Edges06HiveTest {
    public static void main(String[] args) {
        Edges edges = new Edges("Promise 6");
        edges.of("A new HIVE: its number (numbered from 0 on)", Edges06HiveTest::numbers);
        edges.of("IllegalArgumentException: a number is none (x: 0 to 19)", c -> bounds(c, 0, 0, 19));
        edges.of("IllegalArgumentException: a number is none (y: 0 to 19)", c -> bounds(c, 1, 0, 19));
        edges.of("IllegalArgumentException: a number is none (BEES: 0 to 100000)", c -> bounds(c, 2, 0, 100000));
        edges.of("IllegalArgumentException: a number is none (ROOM: 1000 to 100000)", c -> bounds(c, 3, 1000, 100000));
        edges.of("IllegalArgumentException: a number is none (a MARK: 1 to 7, or 0)", c -> bounds(c, 4, 0, 7));
        edges.of("UnsupportedOperationException: there are 20", Edges06HiveTest::twenty);
        edges.of("Of several exceptions the one told first is thrown", Edges06HiveTest::toldFirst);
        edges.of("a call that throws changes nothing", Edges06HiveTest::changesNothing);
        edges.finish();
    }

    private static int hive(SwarmLine line, int[] n) {
        return line.hive(n[0], n[1], n[2], n[3], n[4]);
    }

    private static int[] with(int which, int number) {
        int[] numbers = {5, 5, 5000, 5000, 5};
        numbers[which] = number;
        return numbers;
    }

    private static void numbers(Check check) {
        SwarmLine line = new SwarmLine();
        check.due("the first", 0, line.hive(0, 0, 0, 1000, 0));
        check.due("one more at the same PLACE", 1, line.hive(0, 0, 0, 1000, 0));
        check.due("HIVES", 2, line.count(1));
    }

    private static void bounds(Check check, int which, int least, int greatest) {
        SwarmLine line = new SwarmLine();
        int[] none = {least - 1, greatest + 1, Integer.MIN_VALUE, Integer.MAX_VALUE};
        for (int n : none) {
            check.dueThrow("" + n, IllegalArgumentException.class, () -> hive(line, with(which, n)));
        }
        check.due("the least", 0, hive(line, with(which, least)));
        check.due("the greatest", 1, hive(line, with(which, greatest)));
    }

    private static void twenty(Check check) {
        SwarmLine line = new SwarmLine();
        for (int i = 0; i < 20; i++) {
            check.due("up to 20", i, line.hive(i, i, i, 1000 + i, 0));
        }
        check.dueThrow("a 21st", UnsupportedOperationException.class, () -> line.hive(0, 0, 0, 1000, 0));
        line.hours(12);
        check.dueThrow("a 21st later on", UnsupportedOperationException.class, () -> line.hive(0, 0, 0, 1000, 0));
    }

    private static void toldFirst(Check check) {
        SwarmLine line = new SwarmLine();
        for (int i = 0; i < 20; i++) {
            line.hive(0, 0, 0, 1000, 0);
        }
        for (int which = 0; which < 5; which++) {
            int[] wrong = with(which, -1);
            check.dueThrow("a 21st with a number that is none", IllegalArgumentException.class,
                    () -> hive(line, wrong));
        }
    }

    private static void changesNothing(Check check) {
        SwarmLine line = new SwarmLine();
        line.hive(1, 2, 3, 4000, 5);
        check.dueThrowAlone("no MARK", IllegalArgumentException.class, line, () -> line.hive(0, 0, 0, 1000, 8));
        check.due("the next number", 1, line.hive(0, 0, 0, 1000, 0));
        SwarmLine full = new SwarmLine();
        for (int i = 0; i < 20; i++) {
            full.hive(0, 0, i, 1000, 0);
        }
        check.dueThrowAlone("a 21st", UnsupportedOperationException.class, full, () -> full.hive(0, 0, 0, 1000, 0));
    }
}
