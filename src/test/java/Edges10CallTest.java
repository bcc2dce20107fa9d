/** The edges of promise 10 in a call's text. */
public final class Edges10CallTest {
    public static void main(String[] args) {
        Edges edges = new Edges("Promise 10");
        edges.of("a text: FACT { , FACT } (empty)", Edges10CallTest::empty);
        edges.of("a text: FACT { , FACT } (signs)", Edges10CallTest::signs);
        edges.of("A NUMBER: 1 to 3 digits", Edges10CallTest::digits);
        edges.of("at is told once", Edges10CallTest::atOnce);
        edges.of("the others once at most", Edges10CallTest::othersOnceAtMost);
        edges.of("The numbers of at are 0 to 19", Edges10CallTest::numbersOfAt);
        edges.of("of high 1 to 9", Edges10CallTest::numbersOfHigh);
        edges.of("of since 0 to NOW", Edges10CallTest::numbersOfSince);
        edges.of("of mark 1 to 7", Edges10CallTest::numbersOfMark);
        edges.of("Words are as long as letters a to z go on", Edges10CallTest::words);
        edges.of("NUMBERS as digits do", Edges10CallTest::numbersGoOn);
        edges.of("between all there may be blanks (32), also ahead and behind", Edges10CallTest::blanks);
        edges.of("Uses the TAPE up", Edges10CallTest::usesTheTapeUp);
        edges.of("IllegalArgumentException: the text is wrong", Edges10CallTest::wrongChangesNothing);
        edges.finish();
    }

    private static SwarmLine lineAt(int hour) {
        SwarmLine line = new SwarmLine();
        Check.hours(line, hour);
        return line;
    }

    private static void wrong(Check check, int hour, Object[][] texts) {
        for (Object[] t : texts) {
            SwarmLine line = lineAt(hour);
            check.wrongText((String) t[0], (Integer) t[1], line, line::call);
            check.due("CALLS", 0, line.count(5));
        }
    }

    /** Each text makes a case of its own, at a line of its own. */
    private static void right(Check check, int hour, String text, int... facts) {
        SwarmLine line = lineAt(hour);
        check.due("'" + text + "'", 0, Check.call(line, text));
        check.dueRow("facts of '" + text + "'", facts, i -> line.matter(0, 1 + i));
        check.due("fault() of '" + text + "'", -1, line.fault());
    }

    private static void empty(Check check) {
        wrong(check, 0, new Object[][] {{"", 0}, {" ", 1}, {"     ", 5}, {" ".repeat(400), 400}});
    }

    private static void signs(Check check) {
        wrong(check, 0, new Object[][] {{",", 0}, {",at 1 2", 0}, {"at 1 2,", 7}, {"at 1 2 , ", 9},
            {"at 1 2,,maybe", 7}, {"at 1 2 maybe", 7}, {"at 1 2;maybe", 6}, {"at,1 2", 2}, {"at 1,2", 4},
            {"maybe at 1 2", 6}, {"at 1 2 3", 7}, {"at 1 2.", 6}});
        right(check, 0, "at 1 2", 1, 2, 0, -1, 0);
        right(check, 0, "maybe,at 1 2", 1, 2, 0, -1, 0);
        right(check, 0, "mark 5,maybe,at 1 2,since 0,high 4", 1, 2, 4, 0, 5);
    }

    private static void digits(Check check) {
        wrong(check, 0, new Object[][] {{"at 0001 2", 3}, {"at 1 0002", 5}, {"at 1 2,high 0003", 12},
            {"at 1 2,since 0000", 13}, {"at 1 2,mark 0004", 12}, {"at 4294967297 2", 3}, {"at", 2}, {"at 1", 4},
            {"at 1 2,high", 11}, {"at 1 2,since,maybe", 12}, {"mark,at 1 2", 4}});
        right(check, 0, "at 001 002,high 003,since 000,mark 004", 1, 2, 3, 0, 4);
        right(check, 0, "at 01 02,high 03,since 00,mark 04", 1, 2, 3, 0, 4);
        right(check, 743, "at 1 2,since 743", 1, 2, 0, 743, 0);
    }

    private static void atOnce(Check check) {
        wrong(check, 0, new Object[][] {{"at 1 2,at 1 2", 7}, {"at 1 2,maybe,at 3 4", 13}, {"maybe", 5},
            {"high 3", 6}, {"since 0 ", 8}, {"mark 7", 6}, {"high 3,since 0,mark 7,maybe", 27},
            {"high 3,since 0,mark 7,maybe  ", 29}});
        right(check, 0, "high 3,since 0,mark 7,maybe,at 0 0", 0, 0, 3, 0, 7);
    }

    private static void othersOnceAtMost(Check check) {
        wrong(check, 0, new Object[][] {{"at 1 2,maybe,maybe", 13}, {"at 1 2,high 3,high 3", 14},
            {"at 1 2,since 0,since 0", 15}, {"at 1 2,mark 1,mark 1", 14}, {"maybe,maybe,at 1 2", 6},
            {"high 1,mark 1,high 2", 14}, {"at 1 2,high 3,since 0,mark 7,maybe,maybe", 35},
            {"at 1 2,high 3,since 0,mark 7,maybe,", 35}});
        right(check, 0, "at 1 2,maybe", 1, 2, 0, -1, 0);
    }

    private static void numbersOfAt(Check check) {
        wrong(check, 0, new Object[][] {{"at 20 0", 3}, {"at 0 20", 5}, {"at 999 0", 3}, {"at 0 999", 5},
            {"at -1 0", 3}, {"at 0 -1", 5}, {"at 020 0", 3}});
        right(check, 0, "at 0 0", 0, 0);
        right(check, 0, "at 19 19", 19, 19);
        right(check, 0, "at 0 19", 0, 19);
    }

    private static void numbersOfHigh(Check check) {
        wrong(check, 0, new Object[][] {{"at 1 2,high 0", 12}, {"at 1 2,high 10", 12}, {"high 000,at 1 2", 5},
            {"high 999", 5}, {"high -1", 5}});
        right(check, 0, "at 1 2,high 1", 1, 2, 1);
        right(check, 0, "at 1 2,high 9", 1, 2, 9);
    }

    private static void numbersOfSince(Check check) {
        wrong(check, 0, new Object[][] {{"at 1 2,since 1", 13}, {"since 999", 6}, {"since -1", 6}});
        wrong(check, 50, new Object[][] {{"at 1 2,since 51", 13}, {"since 051,at 1 2", 6}});
        wrong(check, 743, new Object[][] {{"at 1 2,since 744", 13}, {"at 1 2,since a", 13}, {"at 1 2,since at", 13},
            {"at 1 2,since ,", 13}, {"at 1 2,since /", 13}});
        right(check, 0, "at 1 2,since 0", 1, 2, 0, 0);
        right(check, 50, "at 1 2,since 50", 1, 2, 0, 50);
        right(check, 50, "at 1 2,since 0", 1, 2, 0, 0);
        right(check, 743, "at 1 2,since 743", 1, 2, 0, 743);
    }

    private static void numbersOfMark(Check check) {
        wrong(check, 0, new Object[][] {{"at 1 2,mark 0", 12}, {"at 1 2,mark 8", 12}, {"mark 008,at 1 2", 5},
            {"mark 999", 5}});
        right(check, 0, "at 1 2,mark 1", 1, 2, 0, -1, 1);
        right(check, 0, "at 1 2,mark 7", 1, 2, 0, -1, 7);
    }

    private static void words(Check check) {
        wrong(check, 0, new Object[][] {{"a 1 2", 0}, {"ata 1 2", 0}, {"atz 1 2", 0}, {"atmaybe", 0},
            {"a t 1 2", 0}, {"at 1 2,mayb", 7}, {"at 1 2,maybes", 7}, {"at 1 2,maybe s", 13}, {"AT 1 2", 0},
            {"aT 1 2", 0}, {"at`1 2", 2}, {"at{1 2", 2}, {"at@1 2", 2}, {"at[1 2", 2}, {"at" + (char) 225 + "1 2", 2},
            {"at 1 2maybe", 6}, {"atX1 2", 2}, {"atA 1 2", 2},
            {"at 1 2,maybeZ", 12}});
        right(check, 0, "at1 2", 1, 2);
        right(check, 0, "high3,at1 2,since0,mark4", 1, 2, 3, 0, 4);
    }

    private static void numbersGoOn(Check check) {
        wrong(check, 0, new Object[][] {{"at 12", 5}, {"at 127", 3}, {"at 1/2", 4}, {"at 1:2", 4},
            {"at 1" + (char) 178 + "2", 4}, {"at 1 2x", 6}});
        right(check, 0, "at 12 7,high9", 12, 7, 9);
        right(check, 0, "at 0 9", 0, 9);
    }

    private static void blanks(Check check) {
        wrong(check, 0, new Object[][] {{"at\t1 2", 2}, {"at 1\n2", 4}, {"at 1 2\r", 6}, {(char) 0 + "at 1 2", 0},
            {"at 1 2" + (char) 0, 6}, {"at" + (char) 31 + "1 2", 2}, {"at!1 2", 2}, {(char) 160 + "at 1 2", 0},
            {"at 1 2,ma ybe", 7}, {"at 1 2,high 1 1", 14}});
        right(check, 0, "   at   1   2   ,   high   3   ,   maybe   ", 1, 2, 3);
        right(check, 0, "at1 2,high3,maybe", 1, 2, 3);
        right(check, 0, " ".repeat(394) + "at 1 2", 1, 2);
        right(check, 0, "at 1 2" + " ".repeat(394), 1, 2);
    }

    private static void usesTheTapeUp(Check check) {
        SwarmLine line = new SwarmLine();
        String[] texts = {"at 1 2", "at 1 2 x", "", "maybe"};
        for (String text : texts) {
            Check.tape(line, text);
            try {
                line.call();
            } catch (IllegalArgumentException e) {
                check.due("a wrong text", false, text.equals("at 1 2"));
            }
            check.due("end(1) behind '" + text + "'", false, line.end(1));
            check.due("feed behind '" + text + "'", 20, line.feed(0, 0, 0, 0, 0));
            line.end(0);
        }
        check.dueThrow("a second call of the same text", IllegalArgumentException.class, line::call);
    }

    private static void wrongChangesNothing(Check check) {
        SwarmLine line = lineAt(9);
        Check.call(line, "at 1 2,high 3,since 5,mark 4");
        String[] texts = {"at 1 2,high 9,since 0,maybe,", "at 1 2,high 9,since 0,x", "at 1 2,mark 4,high 10"};
        for (String text : texts) {
            Check.tape(line, text);
            check.dueThrowAlone("'" + text + "'", IllegalArgumentException.class, line, line::call);
        }
        check.dueRow("matter", new int[] {0, 1, 2, 3, 5, 4, 1, 9, -1, -1}, what -> line.matter(0, what));
        check.due("a right text behind them", 0, Check.call(line, "at 1 2"));
        check.due("HIGH of none of them", 3, line.matter(0, 3));
    }
}
