/** The edges of promise 12. */
public final class Edges12FaultTest {
    public static void main(String[] args) {
        Edges edges = new Edges("Promise 12");
        edges.of("NONE .. ahead of any", Edges12FaultTest::aheadOfAny);
        edges.of("NONE without one", Edges12FaultTest::withoutOne);
        edges.of("of the latest call() or rota()", Edges12FaultTest::ofTheLatest);
        edges.of("(no other call changes it)", Edges12FaultTest::noOtherCall);
        edges.of("the begin of the first word .. that cannot stand there", Edges12FaultTest::words);
        edges.of("a word that is none, or was told", Edges12FaultTest::wordsNoneOrTold);
        edges.of("the begin of the first .. NUMBER .. that cannot stand there", Edges12FaultTest::numbers);
        edges.of("a NUMBER of more digits, or out of its bounds", Edges12FaultTest::numbersOutOfBounds);
        edges.of("the begin of the first .. sign that cannot stand there .. any other byte", Edges12FaultTest::signs);
        edges.of("or the text's length, if more must come", Edges12FaultTest::moreMustCome);
        edges.of("(of a CALL without at: its length)", Edges12FaultTest::withoutAt);
        edges.of("The first wrong byte (of several)", Edges12FaultTest::firstOfSeveral);
        edges.of("(a TAPE of 400 bytes)", Edges12FaultTest::longest);
        edges.of("(a right text that throws UnsupportedOperationException has no wrong byte)", Edges12FaultTest::full);
        edges.finish();
    }

    private static SwarmLine withKeeper() {
        SwarmLine line = new SwarmLine();
        line.keeper(0, 0, 0, 0, 1, 0, 23);
        return line;
    }

    private static void dueCall(Check check, Object[][] texts) {
        for (Object[] t : texts) {
            SwarmLine line = withKeeper();
            check.wrongText((String) t[0], (Integer) t[1], line, line::call);
        }
    }

    private static void dueRota(Check check, Object[][] texts) {
        for (Object[] t : texts) {
            SwarmLine line = withKeeper();
            check.wrongText((String) t[0], (Integer) t[1], line, line::rota);
        }
    }

    private static void aheadOfAny(Check check) {
        SwarmLine line = new SwarmLine();
        check.due("at first", -1, line.fault());
        Check.tape(line, "x");
        check.due("with a TAPE that nobody read", -1, line.fault());
    }

    private static void withoutOne(Check check) {
        SwarmLine line = withKeeper();
        Check.call(line, "at 1 1");
        check.due("a right call", -1, line.fault());
        Check.rota(line, "else:0");
        check.due("a right rota", -1, line.fault());
    }

    private static void ofTheLatest(Check check) {
        SwarmLine line = withKeeper();
        check.wrongText("at 1 1 x", 7, line, line::call);
        check.wrongText("else:1", 5, line, line::rota);
        check.wrongText("at x", 3, line, line::call);
        Check.rota(line, "else:0");
        check.due("a right rota behind a wrong call", -1, line.fault());
        check.wrongText("else:1", 5, line, line::rota);
        Check.call(line, "at 1 1");
        check.due("a right call behind a wrong rota", -1, line.fault());
    }

    private static void noOtherCall(Check check) {
        SwarmLine line = withKeeper();
        Check.call(line, "at 1 1");
        check.wrongText("at 1 1 x", 7, line, line::call);
        line.feed(1, 2, 3, 4, 5);
        line.end(3);
        line.end(-1);
        line.hours(1);
        line.send(0);
        check.dueThrow("weather", IllegalStateException.class, () -> line.weather(0, 0, 0));
        check.dueThrow("hive", IllegalArgumentException.class, () -> line.hive(-1, 0, 0, 0, 0));
        check.dueThrow("send", IndexOutOfBoundsException.class, () -> line.send(9));
        check.due("fault()", 7, line.fault());
        check.due("fault() again", 7, line.fault());
    }

    private static void words(Check check) {
        dueCall(check, new Object[][] {{"at maybe", 3}, {"at 1 maybe", 5}, {"at 1 2 maybe", 7}, {"high at", 5}});
        SwarmLine late = new SwarmLine();
        Check.hours(late, 743);
        check.wrongText("since maybe", 6, late, late::call);
        check.wrongText("at 1 2,since in", 13, late, late::call);
        dueRota(check, new Object[][] {{"in else", 3}, {"in 3 in", 5}, {"in 3:in", 5}, {"else:0 in", 7}});
    }

    private static void wordsNoneOrTold(Check check) {
        dueCall(check, new Object[][] {{"bee", 0}, {"  bee", 2}, {"at 1 2,  bee", 9}, {"at 1 2,at", 7}, {"maybe,maybe", 6},
            {"in 3:0", 0}});
        dueRota(check, new Object[][] {{"bee", 0}, {"  bee", 2}, {"in 3:0;  bee", 9}, {"else:0;else", 7}, {"at 1 2", 0}});
    }

    private static void numbers(Check check) {
        dueCall(check, new Object[][] {{"1", 0}, {" 12", 1}, {"at 1 2 33", 7}, {"maybe 1", 6}, {"at 1 2,5", 7}});
        dueRota(check, new Object[][] {{"1", 0}, {"else 12:0", 5}, {"in 3 44:0", 5}, {"in 3:0;12", 7}});
    }

    private static void numbersOutOfBounds(Check check) {
        dueCall(check, new Object[][] {{"at 0001 2", 3}, {"at  20 2", 4}, {"at 1   99", 7}, {"high 0", 5}, {"mark 8", 5},
            {"since 1", 6}});
        dueRota(check, new Object[][] {{"in 0003:0", 3}, {"in  16:0", 4}, {"in 3:1", 5}, {"in 3:0 0", 7},
            {"else:  0000", 7}});
    }

    private static void signs(Check check) {
        dueCall(check, new Object[][] {{";", 0}, {"at,", 2}, {"at 1,", 4}, {"at 1 2:", 6}, {"at 1 2  -", 8},
            {"at 1 2,,", 7}, {"A", 0}, {"at 1 2" + (char) 200, 6}, {"at" + (char) 0, 2}});
        dueRota(check, new Object[][] {{":", 0}, {"in:", 2}, {"in 3;", 4}, {"in 3:;", 5}, {"in 3:0,", 6}, {"in 3:0;;", 7},
            {"else:0 E", 7}, {"else:0" + (char) 255, 6}});
    }

    private static void moreMustCome(Check check) {
        dueCall(check, new Object[][] {{"", 0}, {"  ", 2}, {"at", 2}, {"at ", 3}, {"at 1", 4}, {"at 1  ", 6},
            {"at 1 2,", 7}, {"at 1 2,high", 11}, {"at 1 2,since  ", 14}, {"at 1 2,mark", 11}});
        dueRota(check, new Object[][] {{"", 0}, {"  ", 2}, {"in", 2}, {"in 3", 4}, {"in 3  ", 6}, {"in 3:", 5},
            {"in 3:  ", 7}, {"else", 4}, {"else:", 5}, {"else:0;", 7}, {"else:0; ", 8}});
    }

    private static void withoutAt(Check check) {
        dueCall(check, new Object[][] {{"maybe", 5}, {"maybe  ", 7}, {"high 3,mark 4", 13}, {"since 0", 7},
            {"high 3,since 0,mark 7,maybe", 27}, {"high 3,", 7}});
    }

    private static void firstOfSeveral(Check check) {
        dueCall(check, new Object[][] {{"at 20 20,high 0,x", 3}, {"high 0,mark 8", 5}, {"bee,bee", 0},
            {"maybe,maybe,at 1 2,at 1 2", 6}});
        dueRota(check, new Object[][] {{"in 16:9;in 16:9", 3}, {"in 3:9;in 3:0;x", 5}});
    }

    private static void longest(Check check) {
        dueCall(check, new Object[][] {{" ".repeat(399) + "x", 399}, {" ".repeat(400), 400},
            {"at 1 2" + " ".repeat(393) + ",", 400}, {"at 1 2," + "a".repeat(393), 7}, {"at " + "1".repeat(397), 3}});
        dueRota(check, new Object[][] {{" ".repeat(399) + "x", 399}, {" ".repeat(400), 400},
            {"else:0" + " ".repeat(393) + ";", 400}, {"in " + "1".repeat(397), 3}});
    }

    private static void full(Check check) {
        SwarmLine line = new SwarmLine();
        for (int i = 0; i < 60; i++) {
            Town.feedPadded(line, Town.placeOf(i));
            line.call();
        }
        Check.tape(line, "at 1 1 x");
        check.dueThrow("a wrong text", IllegalArgumentException.class, line::call);
        check.due("fault() of it", 7, line.fault());
        Check.tape(line, Town.placeOf(60));
        check.dueThrow("a 61st CASE", UnsupportedOperationException.class, line::call);
        check.due("fault()", -1, line.fault());
    }
}
