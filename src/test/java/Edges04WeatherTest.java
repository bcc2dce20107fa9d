/** The edges of promise 4. */
public final class Edges04WeatherTest {
    public static void main(String[] args) {
        Edges edges = new Edges("Promise 4");
        edges.of("WARMTH and BLOOM of a DAY", Edges04WeatherTest::ofThatDayAlone);
        edges.of("IndexOutOfBoundsException: there is no such DAY", Edges04WeatherTest::noSuchDay);
        edges.of("IllegalArgumentException: a number is none (WARMTH: - 20 to 40)", Edges04WeatherTest::noWarmth);
        edges.of("IllegalArgumentException: a number is none (BLOOM: 0 to 100)", Edges04WeatherTest::noBloom);
        edges.of("IllegalStateException: it is not behind NOW's DAY", Edges04WeatherTest::notBehindToday);
        edges.of("(but DAY 0, as long as NOW is 0)", Edges04WeatherTest::dayNoughtAtFirst);
        edges.of("Of several exceptions the one told first is thrown", Edges04WeatherTest::toldFirst);
        edges.of("a call that throws changes nothing", Edges04WeatherTest::changesNothing);
        edges.finish();
    }

    private static void ofThatDayAlone(Check check) {
        SwarmLine line = new SwarmLine();
        for (int day = 0; day <= 30; day++) {
            line.weather(day, 17, 0);
        }
        line.weather(0, 18, 1);
        line.weather(2, 18, 2);
        line.weather(30, 40, 100);
        line.hive(0, 0, 1000, 100000, 0);
        line.hours(12);
        int[][] due = {{1, 1001}, {0, 1001}, {1, 1003}, {0, 1003}};
        for (int day = 0; day < due.length; day++) {
            check.due("WARM of DAY " + day, due[day][0], line.look(0, 3));
            check.due("BEES of DAY " + day, due[day][1], line.look(0, 0));
            line.hours(24);
        }
        Check.hours(line, 731 - line.count(0));
        check.due("BEES ahead of the last noon", 1003, line.look(0, 0));
        line.hours(1);
        check.due("BEES of DAY 30", 1103, line.look(0, 0));
        check.due("WARM of DAY 30", 1, line.look(0, 3));
    }

    private static void noSuchDay(Check check) {
        SwarmLine line = new SwarmLine();
        int[] none = {-1, 31, Integer.MIN_VALUE, Integer.MAX_VALUE};
        for (int day : none) {
            check.dueThrow("DAY " + day, IndexOutOfBoundsException.class, () -> line.weather(day, 0, 0));
        }
        line.weather(0, 0, 0);
        line.weather(30, 0, 0);
    }

    private static void noWarmth(Check check) {
        SwarmLine line = new SwarmLine();
        int[] none = {-21, 41, Integer.MIN_VALUE, Integer.MAX_VALUE};
        for (int warmth : none) {
            check.dueThrow("WARMTH " + warmth, IllegalArgumentException.class, () -> line.weather(1, warmth, 0));
        }
        line.weather(1, -20, 0);
        line.weather(1, 40, 0);
    }

    private static void noBloom(Check check) {
        SwarmLine line = new SwarmLine();
        int[] none = {-1, 101, Integer.MIN_VALUE, Integer.MAX_VALUE};
        for (int bloom : none) {
            check.dueThrow("BLOOM " + bloom, IllegalArgumentException.class, () -> line.weather(1, 0, bloom));
        }
        line.weather(1, 0, 0);
        line.weather(1, 0, 100);
    }

    private static void notBehindToday(Check check) {
        SwarmLine line = new SwarmLine();
        line.weather(1, 0, 0);
        line.hours(23);
        check.dueThrow("DAY 0 at 23", IllegalStateException.class, () -> line.weather(0, 0, 0));
        line.weather(1, 0, 0);
        line.hours(1);
        check.dueThrow("DAY 0 at 24", IllegalStateException.class, () -> line.weather(0, 0, 0));
        check.dueThrow("DAY 1 at 24", IllegalStateException.class, () -> line.weather(1, 0, 0));
        line.weather(2, 0, 0);
        Check.hours(line, 719 - 24);
        check.dueThrow("DAY 29 at 719", IllegalStateException.class, () -> line.weather(29, 0, 0));
        line.weather(30, 0, 0);
        line.hours(1);
        check.dueThrow("DAY 30 at 720", IllegalStateException.class, () -> line.weather(30, 0, 0));
        line.hours(100);
        check.dueThrow("DAY 30 at 743", IllegalStateException.class, () -> line.weather(30, 0, 0));
    }

    private static void dayNoughtAtFirst(Check check) {
        SwarmLine line = new SwarmLine();
        line.weather(0, 0, 0);
        line.hours(0);
        line.weather(0, 18, 100);
        line.hive(0, 0, 1000, 100000, 0);
        line.hours(1);
        check.dueThrow("DAY 0 at 1", IllegalStateException.class, () -> line.weather(0, 0, 0));
        line.hours(11);
        check.due("BEES by what was told last", 1100, line.look(0, 0));
        check.due("WARM by what was told last", 1, line.look(0, 3));
    }

    private static void toldFirst(Check check) {
        SwarmLine line = new SwarmLine();
        line.hours(24);
        check.dueThrow("no DAY, no WARMTH", IndexOutOfBoundsException.class, () -> line.weather(-1, 41, 0));
        check.dueThrow("no DAY, no BLOOM", IndexOutOfBoundsException.class, () -> line.weather(31, 0, 101));
        check.dueThrow("no WARMTH, a past DAY", IllegalArgumentException.class, () -> line.weather(0, -21, 0));
        check.dueThrow("no BLOOM, NOW's DAY", IllegalArgumentException.class, () -> line.weather(1, 0, -1));
    }

    private static void changesNothing(Check check) {
        SwarmLine line = new SwarmLine();
        line.weather(0, 18, 10);
        line.weather(1, 18, 20);
        line.hive(0, 0, 1000, 100000, 0);
        check.dueThrow("no BLOOM", IllegalArgumentException.class, () -> line.weather(1, 0, 101));
        check.dueThrow("no WARMTH", IllegalArgumentException.class, () -> line.weather(1, 41, 0));
        line.hours(1);
        check.dueThrow("NOW's DAY", IllegalStateException.class, () -> line.weather(0, 0, 0));
        line.hours(11);
        check.due("BEES of DAY 0", 1010, line.look(0, 0));
        check.due("WARM of DAY 0", 1, line.look(0, 3));
        line.hours(24);
        check.due("BEES of DAY 1", 1030, line.look(0, 0));
        check.due("WARM of DAY 1", 2, line.look(0, 3));
    }
}
