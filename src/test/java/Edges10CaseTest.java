/** The edges of promise 10 in the case that a call is of. */
public final class Edges10CaseTest {
    public static void main(String[] args) {
        Edges edges = new Edges("Promise 10 (CASES)");
        edges.of("a CALL: the number of its CASE (numbered from 0 on)", Edges10CaseTest::numbers);
        edges.of("UnsupportedOperationException: there are 200 CALLS", Edges10CaseTest::twoHundredCalls);
        edges.of("UnsupportedOperationException: .. a CASE more is due and there are 60", Edges10CaseTest::sixtyCases);
        edges.of("(there are 60 CASES and none more is due)", Edges10CaseTest::noneMoreIsDue);
        edges.of("Of several exceptions the one told first is thrown", Edges10CaseTest::toldFirst);
        edges.of("a call that throws changes nothing but the TAPE, where it is used up",
                Edges10CaseTest::fullChangesNothing);
        edges.of("the first one that is OPEN or SENT", Edges10CaseTest::firstOne);
        edges.of("that is OPEN or SENT", Edges10CaseTest::openOrSent);
        edges.of("whose PLACE is at most 1 step from the CALL's", Edges10CaseTest::oneStep);
        edges.of("whose latest CALL came at most 6 HOURS ago", Edges10CaseTest::sixHours);
        edges.of("whose MARK is not another one than the CALL's (where both are told)", Edges10CaseTest::marks);
        edges.of("else a new one, that is OPEN", Edges10CaseTest::newOne);
        edges.of("the PLACE of its first CALL that is without maybe", Edges10CaseTest::firstWithoutMaybe);
        edges.of("(as long as all have maybe: of the first one)", Edges10CaseTest::allHaveMaybe);
        edges.of("HIGH, the greatest told (0: none)", Edges10CaseTest::high);
        edges.of("SINCE, the least told (NONE: none)", Edges10CaseTest::since);
        edges.of("MARK, the first one told (0)", Edges10CaseTest::firstMark);
        edges.finish();
    }

    private static void numbers(Check check) {
        SwarmLine line = new SwarmLine();
        check.due("the first", 0, Check.call(line, "at 0 0"));
        check.due("the same", 0, Check.call(line, "at 0 0"));
        check.due("the next", 1, Check.call(line, "at 9 9"));
        check.due("CASES", 2, line.count(4));
        check.due("CALLS", 3, line.count(5));
    }

    private static SwarmLine withTwoHundredCalls(Check check) {
        SwarmLine line = new SwarmLine();
        for (int i = 0; i < 200; i++) {
            Town.feedPadded(line, "at 3 3");
            check.due("CALL " + i, 0, line.call());
        }
        return line;
    }

    private static void twoHundredCalls(Check check) {
        SwarmLine line = withTwoHundredCalls(check);
        Town.feedPadded(line, "at 3 3");
        check.dueThrow("a 201st of the same CASE", UnsupportedOperationException.class, line::call);
        Town.feedPadded(line, "at 9 9");
        check.dueThrow("a 201st of a new CASE", UnsupportedOperationException.class, line::call);
        check.due("CALLS", 200, line.count(5));
    }

    private static SwarmLine withSixtyCases(Check check) {
        SwarmLine line = new SwarmLine();
        for (int i = 0; i < 60; i++) {
            Town.feedPadded(line, Town.placeOf(i));
            check.due("CASE", i, line.call());
        }
        return line;
    }

    private static void sixtyCases(Check check) {
        SwarmLine line = withSixtyCases(check);
        Town.feedPadded(line, Town.placeOf(60));
        check.dueThrow("a 61st", UnsupportedOperationException.class, line::call);
        line.hours(7);
        Town.feedPadded(line, Town.placeOf(0));
        check.dueThrow("a 61st, as all are too old", UnsupportedOperationException.class, line::call);
        check.due("CASES", 60, line.count(4));
        check.due("CALLS", 60, line.count(5));
    }

    private static void noneMoreIsDue(Check check) {
        SwarmLine line = withSixtyCases(check);
        check.due("of the first", 0, Check.call(line, Town.placeOf(0)));
        check.due("of the last", 59, Check.call(line, Town.placeOf(59)));
        check.due("CALLS", 62, line.count(5));
    }

    private static void toldFirst(Check check) {
        SwarmLine line = withSixtyCases(check);
        Town.feedPadded(line, "at 20 20");
        check.dueThrow("60 CASES and a wrong text", IllegalArgumentException.class, line::call);
        check.due("fault()", 3, line.fault());
        SwarmLine full = withTwoHundredCalls(check);
        Town.feedPadded(full, "at 3 x");
        check.dueThrow("200 CALLS and a wrong text", IllegalArgumentException.class, full::call);
        check.due("fault()", 5, full.fault());
    }

    private static void fullChangesNothing(Check check) {
        SwarmLine line = withTwoHundredCalls(check);
        line.hours(3);
        Check.tape(line, "at 3 3,high 9,since 0,mark 1");
        check.dueThrow("a 201st", UnsupportedOperationException.class, line::call);
        check.due("the TAPE is used up", false, line.end(1));
        check.dueRow("matter", new int[] {0, 3, 3, 0, -1, 0, 200, 0, -1, -1}, what -> line.matter(0, what));
        SwarmLine full = withSixtyCases(check);
        Check.tape(full, "at 19 19,high 9,since 0,mark 1");
        check.dueThrow("a 61st", UnsupportedOperationException.class, full::call);
        check.due("the TAPE is used up", false, full.end(1));
        check.due("CALLS", 60, full.count(5));
        check.due("OPEN ones", 60, full.count(10));
        check.dueRow("matter", new int[] {0, 18, 10, 0, -1, 0, 1, 0, -1, -1}, what -> full.matter(59, what));
    }

    private static void firstOne(Check check) {
        SwarmLine line = new SwarmLine();
        Check.call(line, "at 4 4");
        Check.call(line, "at 6 4");
        Check.call(line, "at 5 6,mark 1");
        check.due("1 step from two of them", 0, Check.call(line, "at 5 4"));
        check.due("nearer to the second one", 0, Check.call(line, "at 5 4"));
        check.due("1 step from the last two", 1, Check.call(line, "at 6 5"));
    }

    private static void openOrSent(Check check) {
        SwarmLine line = Town.withSwarm();
        Check.call(line, "at 10 10");
        check.due("of an OPEN one", 0, Check.call(line, "at 10 10"));
        line.send(0);
        check.due("of a SENT one", 0, Check.call(line, "at 10 10"));
        line.hours(1);
        check.due("DONE", 2, line.matter(0, 0));
        check.due("not of a DONE one", 1, Check.call(line, "at 10 10"));
        line.hours(1);
        line.send(1);
        line.hours(1);
        check.due("FALSE", 3, line.matter(1, 0));
        check.due("not of a FALSE one", 2, Check.call(line, "at 10 10"));
    }

    private static void oneStep(Check check) {
        for (int x = 8; x <= 12; x++) {
            for (int y = 8; y <= 12; y++) {
                SwarmLine line = new SwarmLine();
                Check.call(line, "at 10 10");
                int steps = Math.max(Math.abs(x - 10), Math.abs(y - 10));
                check.due("at " + x + " " + y, steps <= 1 ? 0 : 1, Check.call(line, "at " + x + " " + y));
            }
        }
    }

    private static void sixHours(Check check) {
        int[][] due = {{0, 0}, {5, 0}, {6, 0}, {7, 1}, {100, 1}};
        for (int[] d : due) {
            SwarmLine line = new SwarmLine();
            Check.call(line, "at 10 10");
            line.hours(d[0]);
            check.due(d[0] + " HOURS ago", d[1], Check.call(line, "at 10 10"));
        }
        SwarmLine line = new SwarmLine();
        Check.call(line, "at 10 10");
        line.hours(6);
        Check.call(line, "at 10 10");
        line.hours(6);
        check.due("6 HOURS since the latest, 12 since the first", 0, Check.call(line, "at 10 10"));
        line.hours(7);
        check.due("7 HOURS since the latest", 1, Check.call(line, "at 10 10"));
    }

    private static void marks(Check check) {
        String[][] due = {{"", "", "0"}, {",mark 3", "", "0"}, {"", ",mark 3", "0"}, {",mark 3", ",mark 3", "0"},
            {",mark 3", ",mark 4", "1"}, {",mark 7", ",mark 1", "1"}};
        for (String[] d : due) {
            SwarmLine line = new SwarmLine();
            Check.call(line, "at 10 10" + d[0]);
            check.due("'" + d[0] + "' and '" + d[1] + "'", Integer.parseInt(d[2]), Check.call(line, "at 10 10" + d[1]));
        }
        SwarmLine line = new SwarmLine();
        Check.call(line, "at 10 10");
        Check.call(line, "at 10 10,mark 3");
        check.due("another one than the MARK told later", 1, Check.call(line, "at 10 10,mark 4"));
    }

    private static void newOne(Check check) {
        SwarmLine line = new SwarmLine();
        line.hours(5);
        check.due("new", 0, Check.call(line, "at 1 2"));
        check.dueRow("matter", new int[] {0, 1, 2, 0, -1, 0, 1, 5, -1, -1}, what -> line.matter(0, what));
        check.due("OPEN", 1, line.count(10));
    }

    private static void firstWithoutMaybe(Check check) {
        SwarmLine line = new SwarmLine();
        Check.call(line, "at 3 3,maybe");
        Check.call(line, "at 4 4");
        check.due("x", 4, line.matter(0, 1));
        check.due("y", 4, line.matter(0, 2));
        Check.call(line, "at 5 5");
        Check.call(line, "at 3 3,maybe");
        check.due("x stays", 4, line.matter(0, 1));
        check.due("y stays", 4, line.matter(0, 2));
        check.due("near it", 0, Check.call(line, "at 5 3"));
        check.due("no more near where it was", 1, Check.call(line, "at 2 2"));
        SwarmLine sure = new SwarmLine();
        Check.call(sure, "at 3 3");
        Check.call(sure, "at 4 4");
        check.due("x of the first", 3, sure.matter(0, 1));
    }

    private static void allHaveMaybe(Check check) {
        SwarmLine line = new SwarmLine();
        Check.call(line, "at 3 3,maybe");
        Check.call(line, "at 4 4,maybe");
        Check.call(line, "maybe,at 2 2");
        check.due("x", 3, line.matter(0, 1));
        check.due("y", 3, line.matter(0, 2));
        check.due("CALLS", 3, line.matter(0, 6));
    }

    private static void high(Check check) {
        SwarmLine line = new SwarmLine();
        String[] texts = {"", ",high 1", ",high 5", ",high 4", "", ",high 9", ",high 8"};
        int[] due = {0, 1, 5, 5, 5, 9, 9};
        for (int i = 0; i < texts.length; i++) {
            Check.call(line, "at 1 1" + texts[i]);
            check.due("HIGH behind '" + texts[i] + "'", due[i], line.matter(0, 3));
        }
    }

    private static void since(Check check) {
        SwarmLine line = new SwarmLine();
        line.hours(50);
        String[] texts = {"", ",since 50", ",since 20", ",since 21", "", ",since 0", ",since 1"};
        int[] due = {-1, 50, 20, 20, 20, 0, 0};
        for (int i = 0; i < texts.length; i++) {
            Check.call(line, "at 1 1" + texts[i]);
            check.due("SINCE behind '" + texts[i] + "'", due[i], line.matter(0, 4));
        }
    }

    private static void firstMark(Check check) {
        SwarmLine line = new SwarmLine();
        Check.call(line, "at 1 1");
        check.due("none", 0, line.matter(0, 5));
        Check.call(line, "at 1 1,mark 6");
        check.due("the first one", 6, line.matter(0, 5));
        Check.call(line, "at 1 1");
        check.due("it stays", 6, line.matter(0, 5));
        Check.call(line, "at 1 1,mark 2");
        check.due("another one is of another CASE", 6, line.matter(0, 5));
        check.due("its MARK", 2, line.matter(1, 5));
    }
}
