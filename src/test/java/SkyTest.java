/** Promises 4 (weather), 5 (foretell) and 15 (left). */
public final class SkyTest {
    public static void main(String[] args) {
        Check check = new Check("SkyTest");
        weatherBounds(check);
        weatherComesAhead(check);
        foretellBounds(check);
        leftByWeather(check);
        leftByForetold(check);
        leftBehindTheLastDay(check);
        leftOfAnyCase(check);
        check.finish();
    }

    private static void weatherBounds(Check check) {
        SwarmLine line = new SwarmLine();
        int[][] none = {{-1, 0, 0}, {31, 0, 0}, {Integer.MIN_VALUE, 99, 999}, {Integer.MAX_VALUE, 99, 999}};
        for (int[] n : none) {
            check.dueThrowAlone("weather day " + n[0], IndexOutOfBoundsException.class, line,
                    () -> line.weather(n[0], n[1], n[2]));
        }
        int[][] wrong = {{3, -21, 0}, {3, 41, 0}, {3, 0, -1}, {3, 0, 101}, {3, Integer.MIN_VALUE, 0}};
        for (int[] n : wrong) {
            check.dueThrow("weather " + n[1] + " " + n[2], IllegalArgumentException.class,
                    () -> line.weather(n[0], n[1], n[2]));
        }
        line.weather(0, -20, 0);
        line.weather(30, 40, 100);
        line.hours(1);
        check.dueThrow("wrong ahead of late", IllegalArgumentException.class, () -> line.weather(0, 41, 0));
    }

    private static void weatherComesAhead(Check check) {
        SwarmLine line = new SwarmLine();
        line.hive(0, 0, 1000, 100000, 0);
        line.weather(0, 15, 100);
        line.weather(0, 18, 10);
        line.hours(1);
        check.dueThrow("day 0 at 1", IllegalStateException.class, () -> line.weather(0, 0, 0));
        line.hours(23);
        check.due("BEES by the BLOOM told last", 1010, line.look(0, 0));
        check.due("WARM by the WARMTH told last", 1, line.look(0, 3));
        check.dueThrow("day 0 at 24", IllegalStateException.class, () -> line.weather(0, 0, 0));
        check.dueThrow("day 1 at 24", IllegalStateException.class, () -> line.weather(1, 0, 0));
        line.weather(2, 17, 0);
        line.hours(24);
        check.due("BEES by the first BLOOM, 50", 1060, line.look(0, 0));
        check.due("WARM by the first WARMTH, 15", 0, line.look(0, 3));
        line.hours(24);
        check.due("BEES without BLOOM", 1060, line.look(0, 0));
    }

    private static void foretellBounds(Check check) {
        int[][] wrong = {{-21, 0}, {0, 41}, {41, 41}, {-21, -21}, {1, 0}, {40, -20}};
        for (int[] n : wrong) {
            SwarmLine told = new SwarmLine();
            Check.call(told, "at 0 0,since 0");
            check.dueThrowAlone("foretell " + n[0] + " " + n[1], IllegalArgumentException.class, told,
                    () -> told.foretell(1, n[0], n[1]));
        }
        SwarmLine line = new SwarmLine();
        Check.call(line, "at 0 0,since 0");
        check.dueThrow("day -1", IndexOutOfBoundsException.class, () -> line.foretell(-1, 99, 0));
        check.dueThrow("day 31", IndexOutOfBoundsException.class, () -> line.foretell(31, 99, 0));
        line.foretell(0, -20, -20);
        line.foretell(30, 40, 40);
        line.foretell(1, 20, 20);
        check.due("least by 20", 42, line.left(0, true));
        check.due("greatest by 20", 42, line.left(0, false));
        line.hours(100);
        line.foretell(0, 5, 5);
    }

    private static void leftByWeather(Check check) {
        int[][] due = {{-20, 60}, {17, 60}, {18, 30}, {24, 30}, {25, 20}, {40, 20}};
        for (int[] d : due) {
            SwarmLine line = new SwarmLine();
            for (int day = 0; day < 4; day++) {
                line.weather(day, d[0], 0);
                line.foretell(day, 18, 18);
            }
            line.hours(80);
            Check.call(line, "at 0 0,since 7");
            check.due("least of known " + d[0], 7 + d[1], line.left(0, true));
            check.due("greatest of known " + d[0], 7 + d[1], line.left(0, false));
        }
    }

    private static void leftByForetold(Check check) {
        SwarmLine line = new SwarmLine();
        Check.call(line, "at 0 0,since 0");
        // 23 hours of day 0 take 23 of 60 away
        check.due("least at first", 36, line.left(0, true));
        check.due("greatest at first", 60, line.left(0, false));
        line.weather(1, 40, 0);
        check.due("WARMTH of a later day is not known", 60, line.left(0, false));
        line.foretell(1, 17, 18);
        check.due("least by 18", 42, line.left(0, true));
        check.due("greatest by 17", 60, line.left(0, false));
        line.foretell(1, 18, 25);
        check.due("least by 25", 36, line.left(0, true));
        check.due("greatest by 18", 42, line.left(0, false));
        line.foretell(1, 10, 24);
        line.foretell(2, 30, 30);
        check.due("least by 24", 42, line.left(0, true));
        check.due("greatest by 10 and then 30", 47 + 5, line.left(0, false));
        line.hours(24);
        check.due("least as it is known at 24", 36, line.left(0, true));
        check.due("greatest as it is known at 24", 36, line.left(0, false));
    }

    private static void leftBehindTheLastDay(Check check) {
        SwarmLine line = new SwarmLine();
        line.weather(30, 20, 0);
        line.foretell(30, 0, 30);
        Check.hours(line, 743);
        Check.call(line, "at 0 0,since 743");
        check.due("least by DAY 30's", 763, line.left(0, true));
        check.due("greatest by DAY 30's", 803, line.left(0, false));
        Check.call(line, "at 9 9,since 719");
        check.due("24 known, then foretold", 743 + 4, line.left(1, true));
        check.due("24 known, then foretold, greatest", 743 + 12, line.left(1, false));
    }

    private static void leftOfAnyCase(Check check) {
        SwarmLine line = new SwarmLine();
        check.dueThrow("no case", IndexOutOfBoundsException.class, () -> line.left(0, true));
        line.keeper(0, 0, 1, 0, 10, 0, 23);
        Check.rota(line, "else:0");
        Check.call(line, "at 0 0");
        check.due("no SINCE", -1, line.left(0, true));
        check.due("no SINCE, greatest", -1, line.left(0, false));
        check.dueThrow("case -1", IndexOutOfBoundsException.class, () -> line.left(-1, true));
        check.dueThrow("case 1", IndexOutOfBoundsException.class, () -> line.left(1, false));
        Check.call(line, "at 0 0,since 0");
        line.send(0);
        line.hours(1);
        check.due("FALSE", 3, line.matter(0, 0));
        check.due("least of a FALSE one", 36, line.left(0, true));
    }
}
