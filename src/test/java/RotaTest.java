/** Promises 11 (rota) and 12 (fault). */
public final class RotaTest {
    private static final String TEN = "in 0:0;in 1:0;in 2:0;in 3:0;in 4:0;in 5:0;in 6:0;in 7:0;in 8:0;else:0";

    public static void main(String[] args) {
        Check check = new Check("RotaTest");
        rightTexts(check);
        wrongTexts(check);
        tenLinesAtMost(check);
        keepersThatThereAre(check);
        wrongOnesLeaveTheTurns(check);
        newOnesReplaceOldOnes(check);
        check.finish();
    }

    private static SwarmLine lineWithKeepers(int many) {
        SwarmLine line = new SwarmLine();
        for (int i = 0; i < many; i++) {
            line.keeper(0, 0, 0, 0, 1, 0, 23);
        }
        return line;
    }

    /** Whom a sending to a case asks: nobody has a box. */
    private static String askedBy(SwarmLine line, int aCase) {
        line.send(aCase);
        StringBuilder all = new StringBuilder();
        for (int i = 0; line.asked(i, 0) != SwarmLine.NONE; i++) {
            all.append(line.asked(i, 0)).append(' ');
        }
        return all.toString();
    }

    private static void rightTexts(Check check) {
        SwarmLine line = lineWithKeepers(12);
        Check.call(line, "at 0 0");
        Check.call(line, "at 19 19");
        String[][] right = {
            {"in 0:1 2;else:3", "2", "1 2 ", "3 "}, {"else:3;in 0:1 2", "2", "1 2 ", "3 "},
            {"else:0", "1", "0 ", "0 "}, {"else : 11  10 9 ", "1", "11 10 9 ", "11 10 9 "},
            {"in15:4", "1", "", "4 "}, {"  in 000 : 004 ; in 015 : 5 ", "2", "4 ", "5 "},
            {"in 0:11 10 9 8 7 6 5 4 3 2 1 0", "1", "11 10 9 8 7 6 5 4 3 2 1 0 ", ""},
            {"in 3:1;in 4:2", "2", "", ""}, {"in 0:1;in 15:1", "2", "1 ", "1 "},
            {"else:0 1;in 0:2;in 15:3;in 7:4", "4", "2 ", "3 "}};
        for (String[] r : right) {
            check.due("'" + r[0] + "'", Integer.parseInt(r[1]), Check.rota(line, r[0]));
            check.due("LINES", Integer.parseInt(r[1]), line.count(6));
            check.due("fault()", -1, line.fault());
            check.dueState("asked in DISTRICT 0 by '" + r[0] + "'", r[2], askedBy(line, 0));
            check.dueState("asked in DISTRICT 15 by '" + r[0] + "'", r[3], askedBy(line, 1));
        }
    }

    private static void wrongTexts(Check check) {
        String[] shortOnes = {"", "  ", "in", "in 3", "in 3 ", "in 3:", "in 3: ", "else", "else:", "else: ", "in 3:1;",
            "in 3:1; ", "in 3:1;else"};
        for (String text : shortOnes) {
            wrongText(check, text, text.length());
        }
        Object[][] wrong = {
            {"in 16:0", 3}, {"in 0016:0", 3}, {"in 0003:0", 3}, {"in 3:12", 5}, {"in 3:0001", 5}, {"in 3:1 12", 7},
            {"in 3:1 2 1", 9}, {"in 3:1,2", 6}, {"in 3:1:2", 6}, {"in 3 4:1", 5}, {"in :1", 3}, {"in else:1", 3},
            {"in 3;1", 4}, {"else 3:1", 5}, {"else;1", 4}, {"else:1;else:2", 7}, {"in 3:1;in 3:2", 10},
            {"in 3:1;in 003:2", 10}, {"in 3:1 in 4:1", 7}, {"in 3:1 else:1", 7}, {"in 3:x", 5}, {"in 3:", 5},
            {"in 3::1", 5}, {";in 3:1", 0}, {"in 3:1;;in 4:1", 7}, {"3:1", 0}, {"on 3:1", 0}, {"inn 3:1", 0},
            {"i 3:1", 0}, {"els:1", 0}, {"elsein 3:1", 0}, {"In 3:1", 0}, {"in 3:1.", 6}, {"in 3:-1", 5},
            {"in 3:1" + (char) 0, 6}, {"in 3:1" + (char) 187, 6}, {"at 1 1", 0}, {"in 3:1;at 1 1", 7},
            {"in 3:0 1 2 3 4 5 6 7 8 9 10 11 0", 31}, {"in 3:0 1 2 3 4 5 6 7 8 9 10 11 12", 31},
            {"in 3:0 1 2 3 4 5 6 7 8 9 10 11 x", 31}, {"in 99999999999:1", 3}, {"in 3:4294967296", 5}};
        for (Object[] w : wrong) {
            wrongText(check, (String) w[0], (Integer) w[1]);
        }
    }

    private static void wrongText(Check check, String text, int where) {
        SwarmLine line = lineWithKeepers(12);
        Check.call(line, "at 0 0");
        Check.rota(line, "in 0:3;else:4");
        check.wrongText(text, where, line, line::rota);
        check.dueState("the TURNS that stay", "3 ", askedBy(line, 0));
    }

    private static void tenLinesAtMost(Check check) {
        SwarmLine line = lineWithKeepers(1);
        check.due("ten", 10, Check.rota(line, TEN));
        check.due("LINES", 10, line.count(6));
        wrongText(check, TEN + ";in 9:0", TEN.length() + 1);
        wrongText(check, TEN + " ;  in 9:0", TEN.length() + 4);
        wrongText(check, TEN + ";in 0:0", TEN.length() + 1);
        wrongText(check, TEN + ";else:0", TEN.length() + 1);
        wrongText(check, TEN + ";x", TEN.length() + 1);
        wrongText(check, TEN + "; ", TEN.length() + 2);
        wrongText(check, TEN + ",", TEN.length());
    }

    private static void keepersThatThereAre(Check check) {
        SwarmLine line = new SwarmLine();
        check.wrongText("else:0", 5, line, line::rota);
        line.keeper(0, 0, 0, 0, 1, 0, 23);
        check.due("the first", 1, Check.rota(line, "else:0"));
        check.wrongText("else:1", 5, line, line::rota);
        line.keeper(0, 0, 0, 0, 1, 0, 23);
        check.due("the second", 1, Check.rota(line, "else:1"));
    }

    private static void wrongOnesLeaveTheTurns(Check check) {
        SwarmLine line = lineWithKeepers(3);
        Check.call(line, "at 0 0");
        check.wrongText("in 0:1;in 1:2;in 2", 18, line, line::rota);
        check.due("none were told", 0, line.count(6));
        check.dueState("nobody is asked", "", askedBy(line, 0));
        Check.rota(line, "in 0:1 2");
        check.wrongText("in 0:0;else:0;", 14, line, line::rota);
        check.wrongText("in 0:0 3", 7, line, line::rota);
        check.due("LINES", 1, line.count(6));
        check.dueState("they stay", "1 2 ", askedBy(line, 0));
    }

    private static void newOnesReplaceOldOnes(Check check) {
        SwarmLine line = lineWithKeepers(3);
        Check.call(line, "at 0 0");
        Check.call(line, "at 19 19");
        Check.rota(line, "in 0:1 2 0;else:0;in 15:2");
        check.due("one LINE", 1, Check.rota(line, "in 0:2"));
        check.dueState("DISTRICT 0", "2 ", askedBy(line, 0));
        check.dueState("no else any more", "", askedBy(line, 1));
        check.due("two LINES", 2, Check.rota(line, "else:1;in 3:0"));
        check.dueState("else for 0", "1 ", askedBy(line, 0));
        check.dueState("else for 15", "1 ", askedBy(line, 1));
    }
}
