/** Promises 7 (keeper), 8 (boxes) and 20 (crew). */
public final class KeeperTest {
    public static void main(String[] args) {
        Check check = new Check("KeeperTest");
        bounds(check);
        twelveAtMost(check);
        boxes(check);
        crewTells(check);
        duty(check);
        way(check);
        check.finish();
    }

    private static void bounds(Check check) {
        int[][] wrong = {{-1, 0, 0, 0, 1, 0, 0}, {20, 0, 0, 0, 1, 0, 0}, {0, -1, 0, 0, 1, 0, 0},
            {0, 20, 0, 0, 1, 0, 0}, {0, 0, -1, 0, 1, 0, 0}, {0, 0, 21, 0, 1, 0, 0}, {0, 0, 0, -1, 1, 0, 0},
            {0, 0, 0, 10, 1, 0, 0}, {0, 0, 0, 0, 0, 0, 0}, {0, 0, 0, 0, 11, 0, 0}, {0, 0, 0, 0, 1, -1, 0},
            {0, 0, 0, 0, 1, 24, 0}, {0, 0, 0, 0, 1, 0, -1}, {0, 0, 0, 0, 1, 0, 24}};
        for (int[] n : wrong) {
            SwarmLine line = new SwarmLine();
            check.dueThrowAlone("keeper " + java.util.Arrays.toString(n), IllegalArgumentException.class, line,
                    () -> line.keeper(n[0], n[1], n[2], n[3], n[4], n[5], n[6]));
        }
        SwarmLine line = new SwarmLine();
        check.due("least", 0, line.keeper(0, 0, 0, 0, 1, 0, 0));
        check.due("greatest", 1, line.keeper(19, 19, 20, 9, 10, 23, 23));
    }

    private static void twelveAtMost(Check check) {
        SwarmLine line = new SwarmLine();
        for (int i = 0; i < 12; i++) {
            check.due("keeper", i, line.keeper(i, i, 1, 1, 1, 1, 1));
        }
        check.dueThrowAlone("a 13th", UnsupportedOperationException.class, line,
                () -> line.keeper(0, 0, 0, 0, 1, 0, 0));
        check.dueThrow("a wrong 13th", IllegalArgumentException.class, () -> line.keeper(0, 0, 0, 0, 0, 0, 0));
        check.due("KEEPERS", 12, line.count(3));
    }

    private static void boxes(Check check) {
        SwarmLine line = new SwarmLine();
        check.dueThrow("no keeper", IndexOutOfBoundsException.class, () -> line.boxes(0, 21));
        line.keeper(0, 0, 3, 0, 1, 0, 0);
        line.keeper(0, 0, 0, 0, 1, 0, 0);
        check.due("none more", 3, line.boxes(0, 0));
        check.due("four more", 7, line.boxes(0, 4));
        check.dueThrowAlone("-1", IllegalArgumentException.class, line, () -> line.boxes(0, -1));
        check.dueThrowAlone("21", IllegalArgumentException.class, line, () -> line.boxes(0, 21));
        check.dueThrow("keeper -1", IndexOutOfBoundsException.class, () -> line.boxes(-1, 1));
        check.dueThrow("keeper 2", IndexOutOfBoundsException.class, () -> line.boxes(2, 1));
        check.due("20 at most", 20, line.boxes(0, 20));
        check.due("BOXES", 20, line.crew(0, 1));
        check.due("20 to none", 20, line.boxes(1, 20));
    }

    private static void crewTells(Check check) {
        SwarmLine line = new SwarmLine();
        line.keeper(1, 2, 7, 4, 5, 6, 8);
        check.dueRow("crew", new int[] {0, 7, 0, -1, 0}, what -> line.crew(0, what));
        check.dueThrow("keeper -1", IndexOutOfBoundsException.class, () -> line.crew(-1, 9));
        check.dueThrow("keeper 1", IndexOutOfBoundsException.class, () -> line.crew(1, 0));
        check.dueThrow("what -1", java.util.NoSuchElementException.class, () -> line.crew(0, -1));
        check.dueThrow("what 5", java.util.NoSuchElementException.class, () -> line.crew(0, 5));
    }

    /** Without a BOX nobody is ever SENT, so 3 tells that DUTY was not AGAINST. */
    private static void duty(Check check) {
        int[][] duties = {{5, 7}, {22, 2}, {9, 9}, {0, 23}, {1, 0}};
        for (int[] d : duties) {
            SwarmLine line = new SwarmLine();
            line.keeper(0, 0, 0, 0, 1, d[0], d[1]);
            Check.rota(line, "else:0");
            Check.call(line, "at 0 0");
            for (int hour = 0; hour < 30; hour++) {
                int ofDay = hour % 24;
                boolean on = false;
                for (int h = d[0], i = 0; i < 24 && !on; i++, h = (h + 1) % 24) {
                    on = h == ofDay;
                    if (h == d[1]) {
                        break;
                    }
                }
                line.send(0);
                check.due("DUTY " + d[0] + " to " + d[1] + " at " + hour, on ? 3 : 1, line.asked(0, 1));
                line.hours(1);
            }
        }
    }

    private static void way(Check check) {
        // x, y, pace of a HOME, and the HOURS to 10 10
        int[][] ways = {{10, 10, 1, 1}, {10, 11, 10, 1}, {0, 10, 10, 1}, {0, 10, 9, 2}, {10, 19, 3, 3},
            {19, 1, 4, 3}, {0, 0, 1, 10}, {7, 19, 5, 2}};
        for (int[] w : ways) {
            SwarmLine line = new SwarmLine();
            line.keeper(w[0], w[1], 2, 0, w[2], 0, 23);
            Check.rota(line, "else:0");
            Check.call(line, "at 10 10");
            line.send(0);
            for (int to = w[3]; to > 0; to--) {
                check.dueRow("crew on the way", new int[] {1, 2, to, 0, 0}, what -> line.crew(0, what));
                check.due("SENT", 1, line.matter(0, 0));
                line.hours(1);
            }
            check.due("FALSE", 3, line.matter(0, 0));
            for (int to = w[3]; to > 0; to--) {
                check.dueRow("crew on the way back", new int[] {2, 2, to, 0, 0}, what -> line.crew(0, what));
                line.hours(1);
            }
            check.dueRow("crew at HOME", new int[] {0, 2, 0, -1, 0}, what -> line.crew(0, what));
        }
    }
}
