/** The edges of promise 15. */
public final class Edges15LeftTest {
    public static void main(String[] args) {
        Edges edges = new Edges("Promise 15");
        edges.of("IndexOutOfBoundsException: there is no such CASE", Edges15LeftTest::noSuchCase);
        edges.of("NONE if it has no SINCE", Edges15LeftTest::noSince);
        edges.of("the first one behind SINCE by which PATIENCE 60 is at 0 or below", Edges15LeftTest::atNoughtOrBelow);
        edges.of("taken away as in (a)", Edges15LeftTest::takenAway);
        edges.of("for each HOUR behind SINCE", Edges15LeftTest::behindSince);
        edges.of("of DAYS up to NOW's DAY their WARMTH counts", Edges15LeftTest::upToToday);
        edges.of("of later ones for the least HOUR the greatest WARMTH FORETOLD", Edges15LeftTest::leastHour);
        edges.of("for the greatest HOUR the least one", Edges15LeftTest::greatestHour);
        edges.of("(of DAYS behind 30: that of DAY 30)", Edges15LeftTest::behindTheLastDay);
        edges.of("(of a CASE that is not OPEN too)", Edges15LeftTest::ofAnyCase);
        edges.of("(by the least SINCE told)", Edges15LeftTest::leastSince);
        edges.finish();
    }

    private static void dueLeft(Check check, String what, SwarmLine line, int least, int greatest) {
        check.due("least, " + what, least, line.left(0, true));
        check.due("greatest, " + what, greatest, line.left(0, false));
    }

    private static void noSuchCase(Check check) {
        SwarmLine empty = new SwarmLine();
        check.dueThrow("no CASE at all", IndexOutOfBoundsException.class, () -> empty.left(0, false));
        int[] none = {-1, 1, Integer.MIN_VALUE, Integer.MAX_VALUE};
        for (int n : none) {
            SwarmLine line = new SwarmLine();
            Check.call(line, "at 0 0,since 0");
            check.dueThrowAlone("CASE " + n, IndexOutOfBoundsException.class, line, () -> line.left(n, true));
            check.dueThrowAlone("CASE " + n, IndexOutOfBoundsException.class, line, () -> line.left(n, false));
        }
    }

    private static void noSince(Check check) {
        SwarmLine line = new SwarmLine();
        Check.call(line, "at 0 0,high 3,mark 2");
        dueLeft(check, "no SINCE", line, -1, -1);
        Check.call(line, "at 0 0,since 0");
        dueLeft(check, "SINCE 0", line, 36, 60);
    }

    /** 23 hours of day 0 leave 37: by 3, 2 or 1 an hour. */
    private static void atNoughtOrBelow(Check check) {
        int[][] due = {{25, 23 + 13}, {18, 23 + 19}, {17, 60}};
        for (int[] d : due) {
            SwarmLine line = new SwarmLine();
            line.foretell(1, d[0], d[0]);
            line.foretell(2, d[0], d[0]);
            Check.call(line, "at 0 0,since 0");
            dueLeft(check, "by " + d[0], line, d[1], d[1]);
        }
    }

    private static void takenAway(Check check) {
        int[][] due = {{-20, 60}, {17, 60}, {18, 30}, {24, 30}, {25, 20}, {40, 20}};
        for (int[] d : due) {
            SwarmLine line = Town.warm(4, d[0]);
            line.hours(90);
            Check.call(line, "at 0 0,since 10");
            dueLeft(check, "known " + d[0], line, 10 + d[1], 10 + d[1]);
        }
    }

    private static void behindSince(Check check) {
        SwarmLine line = new SwarmLine();
        line.weather(0, 40, 0);
        line.weather(1, 18, 0);
        line.weather(2, 18, 0);
        line.hours(60);
        Check.call(line, "at 0 0,since 23");
        dueLeft(check, "SINCE 23, DAY 0 does not count", line, 53, 53);
        SwarmLine ahead = new SwarmLine();
        ahead.weather(0, 40, 0);
        ahead.weather(1, 18, 0);
        ahead.weather(2, 18, 0);
        ahead.hours(60);
        Check.call(ahead, "at 0 0,since 22");
        dueLeft(check, "SINCE 22, an HOUR of DAY 0 counts", ahead, 23 + 29, 23 + 29);
    }

    /** Day 1 will be hot, and is foretold as cold. */
    private static void upToToday(Check check) {
        SwarmLine line = new SwarmLine();
        line.weather(1, 25, 0);
        line.foretell(1, 0, 0);
        line.foretell(2, 0, 0);
        Check.call(line, "at 0 0,since 0");
        dueLeft(check, "DAY 1 is foretold at 0", line, 60, 60);
        line.hours(23);
        dueLeft(check, "DAY 1 is foretold at 23", line, 60, 60);
        line.hours(1);
        dueLeft(check, "all of DAY 1 is known at 24", line, 36, 36);
        line.hours(100);
        dueLeft(check, "and later on", line, 36, 36);
    }

    private static void leastHour(Check check) {
        int[][] due = {{17, 60}, {18, 42}, {24, 42}, {25, 36}, {40, 36}};
        for (int[] d : due) {
            SwarmLine line = new SwarmLine();
            line.foretell(1, -20, d[0]);
            line.foretell(2, -20, d[0]);
            Check.call(line, "at 0 0,since 0");
            dueLeft(check, "up to " + d[0], line, d[1], 60);
        }
    }

    private static void greatestHour(Check check) {
        int[][] due = {{-20, 60}, {17, 60}, {18, 42}, {24, 42}, {25, 36}};
        for (int[] d : due) {
            SwarmLine line = new SwarmLine();
            line.foretell(1, d[0], 40);
            line.foretell(2, d[0], 40);
            Check.call(line, "at 0 0,since 0");
            dueLeft(check, "from " + d[0] + " on", line, 36, d[1]);
        }
    }

    private static void behindTheLastDay(Check check) {
        SwarmLine line = new SwarmLine();
        line.weather(30, 25, 0);
        line.foretell(30, 17, 18);
        Check.hours(line, 743);
        Check.call(line, "at 0 0,since 743");
        dueLeft(check, "SINCE 743", line, 773, 803);
        SwarmLine ahead = new SwarmLine();
        ahead.foretell(30, 18, 25);
        Check.hours(ahead, 719);
        Check.call(ahead, "at 0 0,since 719");
        dueLeft(check, "SINCE 719", ahead, 739, 719 + 30);
        SwarmLine known = new SwarmLine();
        known.foretell(30, 18, 25);
        Check.hours(known, 743);
        Check.call(known, "at 0 0,since 723");
        dueLeft(check, "20 HOURS are known, 40 are left", known, 743 + 14, 743 + 20);
    }

    private static void ofAnyCase(Check check) {
        SwarmLine line = Town.withSwarm();
        Town.callAndSend(line, "at 10 10,since 60");
        int least = line.left(0, true);
        check.due("SENT", 71 + 13, least);
        line.hours(1);
        check.due("DONE", 2, line.matter(0, 0));
        check.due("the same", least, line.left(0, true));
    }

    private static void leastSince(Check check) {
        SwarmLine line = new SwarmLine();
        line.hours(90);
        Check.call(line, "at 0 0,since 20");
        Check.call(line, "at 0 0,since 10");
        Check.call(line, "at 0 0,since 15");
        dueLeft(check, "SINCE 10", line, 70, 70);
    }
}
