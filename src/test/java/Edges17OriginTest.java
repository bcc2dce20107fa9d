/** The edges of promise 17. */
public final class Edges17OriginTest {
    public static void main(String[] args) {
        Edges edges = new Edges("Promise 17");
        edges.of("IndexOutOfBoundsException: there is no such SWARM", Edges17OriginTest::noSuchSwarm);
        edges.of("IllegalStateException: the SWARM is not HAD", Edges17OriginTest::notHad);
        edges.of("a call that throws changes nothing", Edges17OriginTest::changesNothing);
        edges.of("The HIVE that agrees with a SWARM, if just one does", Edges17OriginTest::justOne);
        edges.of("else NONE (several agree)", Edges17OriginTest::several);
        edges.of("else NONE (none agrees)", Edges17OriginTest::noneAgrees);
        edges.of("(a HIVE that never swarmed)", Edges17OriginTest::neverSwarmed);
        edges.of("if it swarmed last at most 60 HOURS ahead of the HOUR at which that was HAD",
                Edges17OriginTest::sixtyHours);
        edges.of("and not behind it", Edges17OriginTest::notBehind);
        edges.of("lies at most 3 steps from its PLACE", Edges17OriginTest::threeSteps);
        edges.of("if the CASE by which it was HAD has a MARK, has that one", Edges17OriginTest::mark);
        edges.of("(the CASE by which it was HAD has no MARK)", Edges17OriginTest::noMark);
        edges.finish();
    }

    /** The swarm of hive 0, whose mark is 3, hangs at 10 10 from 60 on. */
    private static SwarmLine town() {
        SwarmLine line = Town.ripe();
        Town.hiveFor(line, 10, 10, 2, 3);
        Town.keeperAt(line, 10, 10, 5);
        Check.rota(line, "else:0");
        return line;
    }

    /** Swarm 0 is had at the hour given. */
    private static SwarmLine hadAt(Check check, SwarmLine line, int hour, String facts) {
        Check.hours(line, hour - 1 - line.count(0));
        Town.callAndSend(line, "at 10 10" + facts);
        line.hours(1);
        check.due("HAD", 1, line.swarm(0, 0));
        check.due("at", hour, line.swarm(0, 9));
        return line;
    }

    private static void noSuchSwarm(Check check) {
        SwarmLine line = town();
        check.dueThrow("no SWARM at all", IndexOutOfBoundsException.class, () -> line.origin(0));
        hadAt(check, line, 61, "");
        int[] none = {-1, 1, Integer.MIN_VALUE, Integer.MAX_VALUE};
        for (int n : none) {
            check.dueThrow("SWARM " + n, IndexOutOfBoundsException.class, () -> line.origin(n));
        }
    }

    private static void notHad(Check check) {
        SwarmLine line = town();
        line.hours(60);
        check.due("HANGS", 0, line.swarm(0, 0));
        check.dueThrow("one that HANGS", IllegalStateException.class, () -> line.origin(0));
        line.hours(50);
        check.due("GONE", 2, line.swarm(0, 0));
        check.dueThrow("one that is GONE", IllegalStateException.class, () -> line.origin(0));
    }

    private static void changesNothing(Check check) {
        SwarmLine line = town();
        line.hours(60);
        check.dueThrowAlone("one that HANGS", IllegalStateException.class, line, () -> line.origin(0));
        check.dueThrowAlone("no such one", IndexOutOfBoundsException.class, line, () -> line.origin(1));
    }

    private static void justOne(Check check) {
        SwarmLine line = town();
        line.hive(19, 19, 1001, 1000, 3);
        check.due("the first", 0, hadAt(check, line, 61, "").origin(0));
        SwarmLine last = Town.ripe();
        for (int i = 0; i < 19; i++) {
            last.hive(19, 0, 500, 1000, 0);
        }
        Town.hiveFor(last, 10, 10, 2, 0);
        Town.keeperAt(last, 10, 10, 1);
        Check.rota(last, "else:0");
        check.due("the last of 20", 19, hadAt(check, last, 61, "").origin(0));
    }

    private static void several(Check check) {
        SwarmLine two = town();
        two.hive(10, 10, 1001, 1000, 3);
        check.due("two", -1, hadAt(check, two, 61, "").origin(0));
        SwarmLine three = town();
        three.hive(10, 10, 1001, 1000, 3);
        three.hive(11, 10, 1001, 1000, 3);
        check.due("three", -1, hadAt(check, three, 61, ",mark 3").origin(0));
    }

    private static void noneAgrees(Check check) {
        check.due("another MARK", -1, hadAt(check, town(), 61, ",mark 4").origin(0));
    }

    private static void neverSwarmed(Check check) {
        SwarmLine line = town();
        line.hive(10, 10, 1000, 1000, 3);
        check.due("it swarmed never", 0, hadAt(check, line, 61, "").origin(0));
        check.due("NONE", -1, line.look(1, 4));
    }

    /** Hive 0 swarms at 60; hive 1, which is made later, at 84: its swarm hangs at 9 7 until 133. */
    private static SwarmLine lateSwarm(Check check, int hour) {
        SwarmLine line = Town.warm(4, 18);
        line.hive(10, 10, 30000, 1000, 0);
        Town.keeperAt(line, 10, 10, 1);
        Check.rota(line, "else:0");
        line.hours(13);
        line.hive(10, 10, 20000, 1000, 0);
        Check.hours(line, hour - 1 - 13);
        Town.callAndSend(line, "at " + line.swarm(1, 3) + " " + line.swarm(1, 4));
        line.hours(1);
        check.due("HIVE 0 swarmed last", 60, line.look(0, 4));
        check.due("HIVE 1 swarmed last", 84, line.look(1, 4));
        check.due("HAD at", hour, line.swarm(1, 9));
        check.due("HAD", 1, line.swarm(1, 0));
        return line;
    }

    private static void sixtyHours(Check check) {
        check.due("59 HOURS: both agree", -1, lateSwarm(check, 119).origin(1));
        check.due("60 HOURS: both agree", -1, lateSwarm(check, 120).origin(1));
        check.due("61 HOURS: one agrees", 1, lateSwarm(check, 121).origin(1));
    }

    /** Hive 1, which is made at 13, swarms at 84. */
    private static SwarmLine withLaterHive() {
        SwarmLine line = town();
        line.weather(3, 18, 0);
        line.hours(13);
        line.hive(10, 10, 1001, 1000, 3);
        return line;
    }

    private static void notBehind(Check check) {
        SwarmLine ahead = hadAt(check, withLaterHive(), 83, "");
        check.due("at 83", 0, ahead.origin(0));
        ahead.hours(1);
        check.due("HIVE 1 swarmed", 84, ahead.look(1, 4));
        check.due("an HOUR behind it", 0, ahead.origin(0));
        SwarmLine same = hadAt(check, withLaterHive(), 84, "");
        check.due("HIVE 1 swarmed", 84, same.look(1, 4));
        check.due("in the same HOUR: both agree", -1, same.origin(0));
        SwarmLine again = Town.warm(6, 18);
        again.hive(10, 8, 5000, 1000, 0);
        Town.keeperAt(again, 10, 8, 1);
        Check.rota(again, "else:0");
        again.hours(60);
        Town.callAndSend(again, "at " + again.swarm(0, 3) + " " + again.swarm(0, 4));
        again.hours(1);
        check.due("its HIVE", 0, again.origin(0));
        again.hours(70);
        check.due("at 131", 0, again.origin(0));
        again.hours(1);
        check.due("its HIVE swarmed again", 132, again.look(0, 4));
        check.due("it swarmed last behind it", -1, again.origin(0));
    }

    private static void threeSteps(Check check) {
        int[][] due = {{13, 10, -1}, {14, 10, 0}, {7, 10, -1}, {6, 10, 0}, {10, 13, -1}, {10, 14, 0}, {10, 7, -1},
            {10, 6, 0}, {13, 13, -1}, {14, 13, 0}, {13, 14, 0}, {7, 7, -1}, {7, 6, 0}};
        for (int[] d : due) {
            SwarmLine line = town();
            line.hive(d[0], d[1], 1001, 1000, 3);
            check.due("another HIVE at " + d[0] + " " + d[1], d[2], hadAt(check, line, 61, "").origin(0));
        }
        SwarmLine own = Town.ripe();
        own.hive(10, 10, 5400, 1000, 0);
        Town.keeperAt(own, 7, 7, 1);
        Check.rota(own, "else:0");
        own.hours(60);
        Town.callAndSend(own, "at 6 6");
        own.hours(1);
        check.due("by the SWARM's PLACE, 7 7, not the CASE's", 0, own.origin(0));
    }

    private static void mark(Check check) {
        int[][] due = {{3, 3, -1}, {3, 4, 0}, {4, 4, 1}, {4, 3, -1}, {3, 0, 0}, {7, 0, -1}};
        for (int[] d : due) {
            SwarmLine line = town();
            line.hive(10, 10, 1001, 1000, d[1]);
            check.due("CASE " + d[0] + ", HIVES 3 and " + d[1], d[2], hadAt(check, line, 61, ",mark " + d[0]).origin(0));
        }
    }

    private static void noMark(Check check) {
        int[] marks = {0, 3, 7};
        for (int mark : marks) {
            SwarmLine line = town();
            line.hive(10, 10, 1001, 1000, mark);
            check.due("HIVES 3 and " + mark, -1, hadAt(check, line, 61, "").origin(0));
        }
    }
}
