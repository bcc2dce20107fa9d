/** The edges of promise 1, and what the terms tell of all days at first. */
public final class Edges01NewObjectTest {
    public static void main(String[] args) {
        Edges edges = new Edges("Promise 1");
        edges.of("No HIVES", Edges01NewObjectTest::noHives);
        edges.of("No .. SWARMS", Edges01NewObjectTest::noSwarms);
        edges.of("No .. KEEPERS", Edges01NewObjectTest::noKeepers);
        edges.of("No .. CASES", Edges01NewObjectTest::noCases);
        edges.of("No .. TURNS", Edges01NewObjectTest::noTurns);
        edges.of("NOW is 0", Edges01NewObjectTest::nowIsNought);
        edges.of("a WARMTH (.. 15 at first)", Edges01NewObjectTest::firstWarmth);
        edges.of("a BLOOM (.. 50 at first)", Edges01NewObjectTest::firstBloom);
        edges.of("bounds FORETOLD of its WARMTH (- 20 and 40 at first)", Edges01NewObjectTest::firstForetold);
        edges.of("(the TAPE is empty at first)", Edges01NewObjectTest::noTape);
        edges.finish();
    }

    private static void noHives(Check check) {
        SwarmLine line = new SwarmLine();
        check.due("count(1)", 0, line.count(1));
        check.due("count(11)", 0, line.count(11));
        check.dueThrow("look(0, 0)", IndexOutOfBoundsException.class, () -> line.look(0, 0));
        check.due("the first number", 0, line.hive(0, 0, 0, 1000, 0));
    }

    private static void noSwarms(Check check) {
        SwarmLine line = new SwarmLine();
        check.due("count(2)", 0, line.count(2));
        for (int what = 7; what <= 9; what++) {
            check.due("count(" + what + ")", 0, line.count(what));
        }
        check.dueThrow("swarm(0, 0)", IndexOutOfBoundsException.class, () -> line.swarm(0, 0));
        check.dueThrow("origin(0)", IndexOutOfBoundsException.class, () -> line.origin(0));
    }

    private static void noKeepers(Check check) {
        SwarmLine line = new SwarmLine();
        check.due("count(3)", 0, line.count(3));
        check.dueThrow("crew(0, 0)", IndexOutOfBoundsException.class, () -> line.crew(0, 0));
        check.dueThrow("boxes(0, 0)", IndexOutOfBoundsException.class, () -> line.boxes(0, 0));
        check.due("the first number", 0, line.keeper(0, 0, 0, 0, 1, 0, 0));
    }

    private static void noCases(Check check) {
        SwarmLine line = new SwarmLine();
        check.due("count(4)", 0, line.count(4));
        check.due("count(5)", 0, line.count(5));
        check.due("count(10)", 0, line.count(10));
        check.due("most()", 0, line.most());
        check.dueThrow("matter(0, 0)", IndexOutOfBoundsException.class, () -> line.matter(0, 0));
        check.dueThrow("send(0)", IndexOutOfBoundsException.class, () -> line.send(0));
        check.dueThrow("left(0, true)", IndexOutOfBoundsException.class, () -> line.left(0, true));
        check.due("the first number", 0, Check.call(line, "at 0 0"));
    }

    private static void noTurns(Check check) {
        SwarmLine line = new SwarmLine();
        check.due("count(6)", 0, line.count(6));
        Town.keeperAt(line, 0, 0, 1);
        Check.call(line, "at 0 0");
        check.due("send(0)", -1, line.send(0));
        check.due("asked(0, 0)", -1, line.asked(0, 0));
    }

    private static void nowIsNought(Check check) {
        SwarmLine line = new SwarmLine();
        check.due("count(0)", 0, line.count(0));
        check.due("hours(0)", 0, line.hours(0));
        Check.call(line, "at 0 0");
        check.due("the HOUR of a CALL", 0, line.matter(0, 7));
    }

    /** Below 18 of any kind is all that can be seen of it. */
    private static void firstWarmth(Check check) {
        SwarmLine line = new SwarmLine();
        line.hive(0, 0, 1000, 1000, 0);
        line.hours(12);
        for (int day = 0; day <= 30; day++) {
            check.due("WARM at noon of DAY " + day, 0, line.look(0, 3));
            line.hours(24);
        }
        Check.call(line, "at 0 0,since 683");
        check.due("1 an HOUR of the last DAYS", 743, line.left(0, true));
    }

    private static void firstBloom(Check check) {
        SwarmLine line = new SwarmLine();
        line.hive(0, 0, 1000, 100000, 0);
        int bees = 1000;
        line.hours(12);
        for (int day = 0; day <= 30; day++) {
            bees += bees * 50 / 1000;
            check.due("BEES at noon of DAY " + day, bees, line.look(0, 0));
            line.hours(24);
        }
    }

    /** 25 and more, and below 18, is all that can be seen of them. */
    private static void firstForetold(Check check) {
        SwarmLine line = new SwarmLine();
        line.hours(23);
        for (int day = 0; day <= 30; day++) {
            int since = 24 * day + 23;
            int number = Check.call(line, "at 0 0,since " + since);
            check.due("least behind DAY " + day, since + 20, line.left(number, true));
            check.due("greatest behind DAY " + day, since + 60, line.left(number, false));
            line.hours(24);
        }
    }

    private static void noTape(Check check) {
        SwarmLine line = new SwarmLine();
        check.due("end(1)", false, line.end(1));
        check.due("end(0)", true, line.end(0));
        check.due("feed", 20, line.feed(0, 0, 0, 0, 0));
    }
}
