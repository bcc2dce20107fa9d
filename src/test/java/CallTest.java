/** Promises 10 (call), 12 (fault) and 21 (matter). */
public final class CallTest {
    public static void main(String[] args) {
        Check check = new Check("CallTest");
        rightTexts(check);
        wrongTexts(check);
        sinceIsNotBehindNow(check);
        faultIsOfTheLatest(check);
        melting(check);
        meltingByHours(check);
        meltingByState(check);
        facts(check);
        place(check);
        sixtyCasesAtMost(check);
        twoHundredCallsAtMost(check);
        matterTells(check);
        check.finish();
    }

    private static void rightTexts(Check check) {
        String[] texts = {"at 12 7", "at12 7", "  at  12   7  ", "at 012 007", "at 12 7,high 5", "high5,at12 7",
            "at 12 7 , maybe", "maybe,at 12 7", "since 0,mark 3,high 5,maybe,at 12 7",
            " since 000 , mark 003 , high 005 , maybe , at 012 007 ", "mark7,at 12 7", "at 12 7,mark 1,high 9,since0"};
        int[][] due = {{0, -1, 0}, {0, -1, 0}, {0, -1, 0}, {0, -1, 0}, {5, -1, 0}, {5, -1, 0}, {0, -1, 0},
            {0, -1, 0}, {5, 0, 3}, {5, 0, 3}, {0, -1, 7}, {9, 0, 1}};
        for (int i = 0; i < texts.length; i++) {
            SwarmLine line = new SwarmLine();
            check.due("'" + texts[i] + "'", 0, Check.call(line, texts[i]));
            int[] d = due[i];
            check.dueRow("matter of '" + texts[i] + "'", new int[] {0, 12, 7, d[0], d[1], d[2], 1, 0, -1, -1},
                    what -> line.matter(0, what));
            check.due("fault()", -1, line.fault());
        }
        SwarmLine line = new SwarmLine();
        check.due("at 0 0", 0, Check.call(line, "at 0 0"));
        check.due("at 19 19", 1, Check.call(line, "at 19 19"));
    }

    private static void wrongTexts(Check check) {
        String[] texts = {"", "   ", "at", "at ", "at 1", "at 1 ", "at 1 2,", "at 1 2, ", "high 3", "high 3  ", "maybe",
            "high 1,since 0,mark 1,maybe", "high", "at 1 2,since", "at 1 2,mark  "};
        for (String text : texts) {
            wrongText(check, text, text.length());
        }
        Object[][] wrong = {
            {",at 1 2", 0}, {"at 1 2,,", 7}, {"at 1,2", 4}, {"at ,1 2", 3}, {"at 1 2 3", 7}, {"at 20 1", 3},
            {"at 1 20", 5}, {"at 0001 2", 3}, {"at 1 0002", 5}, {"at 1 2;", 6}, {"at 1 2 maybe", 7},
            {"at 1 2maybe", 6}, {"at x 2", 3}, {"atx 1 2", 0}, {"ata 1 2", 0}, {"atz 1 2", 0},
            {"a 1 2", 0}, {"AT 1 2", 0}, {"aT 1 2", 0},
            {"at 1 2,At", 7}, {"at 1 2,at 1 2", 7}, {"maybe,maybe,at 1 2", 6}, {"high 1,high 1,at 1 2", 7},
            {"since 1,since 1,at 1 2", 8}, {"mark 1,mark 1,at 1 2", 7}, {"high 0,at 1 2", 5}, {"high 10", 5},
            {"mark 0", 5}, {"mark 8", 5}, {"since 10", 6}, {"since 0009", 6}, {"maybe 1", 6}, {"maybes", 0},
            {"mayb", 0}, {"1", 0}, {"at -1 2", 3}, {"at 1 2.", 6}, {"at\t1 2", 2}, {"at 1\n2", 4},
            {"at 1 2" + (char) 0, 6}, {"at 1 2," + (char) 225, 7}, {(char) 255 + "at 1 2", 0},
            {"at 1" + (char) 176, 4}, {(char) 160 + "at 1 2", 0}, {"high at 1 2", 5}, {"at 1 2,high maybe", 12},
            {"at 1 2,high 1,since 0,mark 1,maybe,", 35}, {"at 1 2,high 1,since 0,mark 1,maybe,maybe", 35},
            {"at 1 2,high 1,since 0,mark 1,maybe,x", 35}, {"at 1 2,high 1,since 0,mark 1,maybe , 4", 37},
            {"at 1 2,high 1,since 0,mark 1,maybe;", 34}, {"else:0", 0}, {"in 1:0", 0}, {"at{1 2", 2}, {"at`1 2", 2},
            {"at 1/2", 4}, {"at 1:2", 4}, {"at 12345678901234567890 1", 3}, {"at 4294967297 1", 3}};
        for (Object[] w : wrong) {
            wrongText(check, (String) w[0], (Integer) w[1]);
        }
    }

    /** At hour 9, behind a call that is right. */
    private static void wrongText(Check check, String text, int where) {
        SwarmLine line = new SwarmLine();
        line.hours(9);
        Check.call(line, "at 5 5,high 2");
        check.wrongText(text, where, line, line::call);
        check.due("CALLS", 1, line.count(5));
    }

    private static void sinceIsNotBehindNow(Check check) {
        SwarmLine line = new SwarmLine();
        check.wrongText("at 1 1,since 1", 13, line, line::call);
        line.hours(1);
        check.due("since 1 at 1", 0, Check.call(line, "at 1 1,since 1"));
        Check.hours(line, 742);
        check.wrongText("at 1 1,since 744", 13, line, line::call);
        check.due("since 743 at 743", 1, Check.call(line, "at 1 1,since 743"));
        check.due("SINCE", 743, line.matter(1, 4));
    }

    private static void faultIsOfTheLatest(Check check) {
        SwarmLine line = new SwarmLine();
        line.keeper(0, 0, 0, 0, 1, 0, 0);
        check.wrongText("at 1 1 x", 7, line, line::call);
        line.hours(3);
        check.due("fault() stays", 7, line.fault());
        Check.call(line, "at 1 1");
        check.due("fault() of a right call", -1, line.fault());
        check.wrongText("else:1", 5, line, line::rota);
        Check.call(line, "at 1 1");
        check.due("fault() of a right call behind a wrong rota", -1, line.fault());
        check.wrongText("at 1 1 x", 7, line, line::call);
        Check.rota(line, "else:0");
        check.due("fault() of a right rota", -1, line.fault());
    }

    private static void melting(Check check) {
        String[] near = {"at 9 9", "at 10 9", "at 11 9", "at 9 10", "at 10 10", "at 11 10", "at 9 11", "at 10 11",
            "at 11 11"};
        SwarmLine line = new SwarmLine();
        Check.call(line, "at 10 10");
        for (String text : near) {
            check.due(text, 0, Check.call(line, text));
        }
        check.due("CALLS of the CASE", 10, line.matter(0, 6));
        String[] far = {"at 8 10", "at 12 10", "at 10 8", "at 10 12"};
        for (int i = 0; i < far.length; i++) {
            check.due(far[i], i + 1, Check.call(line, far[i]));
        }
        check.due("the first of several", 0, Check.call(line, "at 9 10"));

        SwarmLine marked = new SwarmLine();
        check.due("mark 1", 0, Check.call(marked, "at 5 5,mark 1"));
        check.due("mark 2", 1, Check.call(marked, "at 5 5,mark 2"));
        check.due("no mark", 0, Check.call(marked, "at 5 5"));
        check.due("mark 2 again", 1, Check.call(marked, "at 6 6,mark 2"));
        check.due("mark 3", 2, Check.call(marked, "at 6 6,mark 3"));
        check.due("a CASE without", 3, Check.call(marked, "at 15 15"));
        check.due("a MARK for it", 3, Check.call(marked, "at 15 15,mark 5"));
        check.due("its MARK", 5, marked.matter(3, 5));
        check.due("another MARK", 4, Check.call(marked, "at 15 15,mark 6"));
    }

    private static void meltingByHours(Check check) {
        SwarmLine line = new SwarmLine();
        Check.call(line, "at 10 10");
        line.hours(6);
        check.due("6 HOURS ago", 0, Check.call(line, "at 10 10"));
        check.due("the latest", 6, line.matter(0, 7));
        line.hours(6);
        check.due("6 HOURS since the latest", 0, Check.call(line, "at 10 10"));
        line.hours(7);
        check.due("7 HOURS ago", 1, Check.call(line, "at 10 10"));
        check.due("the latest of the first", 12, line.matter(0, 7));
    }

    private static void meltingByState(Check check) {
        SwarmLine line = new SwarmLine();
        line.keeper(10, 10, 1, 0, 1, 0, 23);
        Check.rota(line, "else:0");
        Check.call(line, "at 10 10");
        line.send(0);
        check.due("of a SENT one", 0, Check.call(line, "at 10 10"));
        line.hours(1);
        check.due("FALSE", 3, line.matter(0, 0));
        check.due("not of a FALSE one", 1, Check.call(line, "at 10 10"));

        SwarmLine done = new SwarmLine();
        HiveTest.warm(done, 3, 20);
        done.hive(10, 10, 20000, 1000, 0);
        done.keeper(8, 13, 1, 9, 1, 0, 23);
        Check.rota(done, "else:0");
        done.hours(60);
        Check.call(done, "at 8 13");
        done.send(0);
        done.hours(1);
        check.due("DONE", 2, done.matter(0, 0));
        check.due("not of a DONE one", 1, Check.call(done, "at 8 13"));
    }

    private static void facts(Check check) {
        SwarmLine line = new SwarmLine();
        line.hours(50);
        String[] texts = {"at 3 3", "at 3 3,high 4,since 20", "at 3 3,high 2,since 30,mark 6", "at 3 3,high 7,since 10",
            "at 3 3,mark 6", "at 3 3"};
        int[][] due = {{0, -1, 0}, {4, 20, 0}, {4, 20, 6}, {7, 10, 6}, {7, 10, 6}, {7, 10, 6}};
        for (int i = 0; i < texts.length; i++) {
            check.due(texts[i], 0, Check.call(line, texts[i]));
            int[] d = due[i];
            check.dueRow("matter behind '" + texts[i] + "'",
                    new int[] {0, 3, 3, d[0], d[1], d[2], i + 1, 50, -1, -1}, what -> line.matter(0, what));
        }
        Check.call(line, "at 3 3,since 0");
        check.due("since 0 is the least", 0, line.matter(0, 4));
    }

    private static void place(Check check) {
        SwarmLine line = new SwarmLine();
        Check.call(line, "at 3 3,maybe");
        Check.call(line, "at 4 4,maybe");
        check.due("x of the first, all maybe", 3, line.matter(0, 1));
        check.due("y of the first, all maybe", 3, line.matter(0, 2));
        Check.call(line, "at 4 2");
        check.due("x of the first without maybe", 4, line.matter(0, 1));
        check.due("y of the first without maybe", 2, line.matter(0, 2));
        Check.call(line, "at 5 3");
        Check.call(line, "at 5 3,maybe");
        check.due("x stays", 4, line.matter(0, 1));
        check.due("y stays", 2, line.matter(0, 2));
        check.due("CALLS", 5, line.matter(0, 6));
        check.due("near the PLACE as it is now", 0, Check.call(line, "at 5 1"));
        check.due("no more near", 1, Check.call(line, "at 2 2"));
    }

    private static String placeOf(int number) {
        return "at " + number % 10 * 2 + " " + number / 10 * 2;
    }

    private static void sixtyCasesAtMost(Check check) {
        SwarmLine line = new SwarmLine();
        for (int i = 0; i < 60; i++) {
            check.due("CASE", i, Check.call(line, placeOf(i)));
        }
        Check.tape(line, "at 1 x");
        check.dueThrow("a wrong text", IllegalArgumentException.class, line::call);
        check.due("fault() of it", 5, line.fault());
        Check.tape(line, placeOf(60));
        check.dueThrow("a 61st", UnsupportedOperationException.class, line::call);
        check.due("its text is right", -1, line.fault());
        check.due("the tape is used up", false, line.end(1));
        check.due("another CALL of the last one", 59, Check.call(line, placeOf(59)));
        check.due("CASES", 60, line.count(4));
        check.due("CALLS", 61, line.count(5));
    }

    private static void twoHundredCallsAtMost(Check check) {
        SwarmLine line = new SwarmLine();
        for (int i = 0; i < 200; i++) {
            line.feed(0x61742033, 0x20332020, 0x20202020, 0x20202020, 0x20202020);
            check.due("CALL", 0, line.call());
        }
        check.due("CALLS", 200, line.count(5));
        Check.tape(line, "at 3 3");
        check.dueThrow("a 201st", UnsupportedOperationException.class, line::call);
        check.due("the tape is used up", false, line.end(1));
        Check.tape(line, "at 3");
        check.dueThrow("a wrong 201st", IllegalArgumentException.class, line::call);
        check.due("CALLS of the CASE", 200, line.matter(0, 6));
    }

    private static void matterTells(Check check) {
        SwarmLine line = new SwarmLine();
        Check.call(line, "at 1 2");
        check.dueThrow("case -1", IndexOutOfBoundsException.class, () -> line.matter(-1, 99));
        check.dueThrow("case 1", IndexOutOfBoundsException.class, () -> line.matter(1, 0));
        check.dueThrow("what -1", java.util.NoSuchElementException.class, () -> line.matter(0, -1));
        check.dueThrow("what 10", java.util.NoSuchElementException.class, () -> line.matter(0, 10));
    }
}
