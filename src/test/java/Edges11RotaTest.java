/** The edges of promise 11. */
public final class Edges11RotaTest {
    private static final String TEN = "in 0:0;in 1:0;in 2:0;in 3:0;in 4:0;in 5:0;in 6:0;in 7:0;in 8:0;in 9:0";

    public static void main(String[] args) {
        Edges edges = new Edges("Promise 11");
        edges.of("a text: LINE { ; LINE } (empty)", Edges11RotaTest::empty);
        edges.of("a text: LINE { ; LINE } (signs)", Edges11RotaTest::signs);
        edges.of("at most 10 LINES", Edges11RotaTest::tenLines);
        edges.of("(an 11th one is wrong where it begins)", Edges11RotaTest::eleventhLine);
        edges.of("in NUMBER : NUMBER { NUMBER } | else : NUMBER { NUMBER }", Edges11RotaTest::line);
        edges.of("A NUMBER: 1 to 3 digits", Edges11RotaTest::digits);
        edges.of("DISTRICT (0 to 15", Edges11RotaTest::districts);
        edges.of("or all others", Edges11RotaTest::allOthers);
        edges.of("none twice", Edges11RotaTest::noDistrictTwice);
        edges.of("else twice no more)", Edges11RotaTest::elseTwice);
        edges.of("KEEPERS that there are", Edges11RotaTest::keepersThatThereAre);
        edges.of("(at most 12 in a LINE", Edges11RotaTest::twelveInALine);
        edges.of("none twice in it)", Edges11RotaTest::noKeeperTwice);
        edges.of("between all there may be blanks (32), also ahead and behind", Edges11RotaTest::blanks);
        edges.of("the TURNS, in place of those that were told: how many LINES", Edges11RotaTest::inPlaceOfThose);
        edges.of("IllegalArgumentException: the text is wrong: they stay", Edges11RotaTest::theyStay);
        edges.of("Uses the TAPE up", Edges11RotaTest::usesTheTapeUp);
        edges.finish();
    }

    /** Nobody has a box, so each sending asks all of a line. */
    private static SwarmLine withKeepers(int many) {
        SwarmLine line = new SwarmLine();
        for (int i = 0; i < many; i++) {
            line.keeper(0, 0, 0, 0, 1, 0, 23);
        }
        Check.call(line, "at 0 0");
        Check.call(line, "at 19 19");
        return line;
    }

    private static void wrong(Check check, int keepers, Object[][] texts) {
        for (Object[] t : texts) {
            SwarmLine line = withKeepers(keepers);
            check.wrongText((String) t[0], (Integer) t[1], line, line::rota);
            check.due("LINES", 0, line.count(6));
        }
    }

    private static String asked(SwarmLine line, int aCase) {
        line.send(aCase);
        StringBuilder all = new StringBuilder();
        for (int i = 0; i < 12 && line.asked(i, 0) != SwarmLine.NONE; i++) {
            all.append(i == 0 ? "" : " ").append(line.asked(i, 0));
        }
        return all.toString();
    }

    /** Case 0 lies in district 0, case 1 in district 15. */
    private static void dueTurns(Check check, SwarmLine line, String text, int lines, String first, String last) {
        check.due("'" + text + "'", lines, Check.rota(line, text));
        check.due("LINES of '" + text + "'", lines, line.count(6));
        check.due("fault() of '" + text + "'", -1, line.fault());
        check.dueState("asked in 0 by '" + text + "'", first, asked(line, 0));
        check.dueState("asked in 15 by '" + text + "'", last, asked(line, 1));
    }

    private static void empty(Check check) {
        wrong(check, 3, new Object[][] {{"", 0}, {" ", 1}, {"      ", 6}, {" ".repeat(400), 400}});
    }

    private static void signs(Check check) {
        wrong(check, 3, new Object[][] {{";", 0}, {";in 3:1", 0}, {"in 3:1;", 7}, {"in 3:1 ; ", 9},
            {"in 3:1;;in 4:1", 7}, {"in 3:1 in 4:1", 7}, {"in 3:1,in 4:1", 6}, {"in 3:1 else:1", 7}, {"in 3:1:", 6},
            {"in 3:1.", 6}, {"in 3:1" + (char) 0, 6}, {"in 3:1" + (char) 187, 6}});
        dueTurns(check, withKeepers(3), "in 0:1", 1, "1", "");
        dueTurns(check, withKeepers(3), "in 0:1;in 15:2", 2, "1", "2");
    }

    private static void tenLines(Check check) {
        SwarmLine line = withKeepers(1);
        check.due("ten", 10, Check.rota(line, TEN));
        check.due("ten with else", 10, Check.rota(line, TEN.substring(0, TEN.length() - 6) + "else:0"));
        check.wrongText(TEN + ";in 10:0", TEN.length() + 1, line, line::rota);
        check.wrongText(TEN + ";else:0", TEN.length() + 1, line, line::rota);
        check.due("LINES", 10, line.count(6));
    }

    private static void eleventhLine(Check check) {
        int behind = TEN.length();
        wrong(check, 1, new Object[][] {{TEN + " ;   in 10:0", behind + 5}, {TEN + ";in 10:0;in 11:0", behind + 1},
            {TEN + ";in 99:0", behind + 1}, {TEN + ";x", behind + 1}, {TEN + ";", behind + 1}, {TEN + ";  ", behind + 3},
            {TEN + ",in 10:0", behind}});
    }

    private static void line(Check check) {
        wrong(check, 3, new Object[][] {{"in", 2}, {"in 3", 4}, {"in 3:", 5}, {"in 3: ", 6}, {"else", 4}, {"else:", 5},
            {"in :1", 3}, {"in 3 1", 5}, {"in 3;1", 4}, {"in 3::1", 5}, {"else 3:1", 5}, {"else 1", 5}, {"3:1", 0},
            {"in else:1", 3}, {"in 3:x", 5}, {"in 3:;", 5}, {"in 3:1 x", 7}, {"on 3:1", 0}, {"inn 3:1", 0}, {"i 3:1", 0},
            {"els:1", 0}, {"elsee:1", 0}, {"In 3:1", 0}, {"at 1 1", 0}, {"in 3:-1", 5}});
        dueTurns(check, withKeepers(3), "in 0:2 0 1", 1, "2 0 1", "");
        dueTurns(check, withKeepers(3), "else:2 0 1", 1, "2 0 1", "2 0 1");
    }

    private static void digits(Check check) {
        wrong(check, 3, new Object[][] {{"in 0003:1", 3}, {"in 3:0001", 5}, {"in 3:1 0002", 7}, {"in 4294967299:1", 3},
            {"in 3:4294967296", 5}});
        dueTurns(check, withKeepers(3), "in 000:001 002;in 015:000", 2, "1 2", "0");
    }

    private static void districts(Check check) {
        wrong(check, 3, new Object[][] {{"in 16:1", 3}, {"in 016:1", 3}, {"in 999:1", 3}, {"in -1:1", 3}});
        dueTurns(check, withKeepers(3), "in 0:1", 1, "1", "");
        dueTurns(check, withKeepers(3), "in 15:1", 1, "", "1");
    }

    private static void allOthers(Check check) {
        dueTurns(check, withKeepers(3), "in 0:1;else:2", 2, "1", "2");
        dueTurns(check, withKeepers(3), "else:2;in 0:1", 2, "1", "2");
        dueTurns(check, withKeepers(3), "else:2", 1, "2", "2");
        dueTurns(check, withKeepers(3), "in 0:1;in 15:2;else:0", 3, "1", "2");
    }

    private static void noDistrictTwice(Check check) {
        wrong(check, 3, new Object[][] {{"in 3:1;in 3:2", 10}, {"in 3:1;in 003:2", 10}, {"in 0:1;else:1;in 0:1", 17},
            {"in 15:1;in 15:1", 11}});
        dueTurns(check, withKeepers(3), "in 0:1;in 1:1;in 15:1", 3, "1", "1");
    }

    private static void elseTwice(Check check) {
        wrong(check, 3, new Object[][] {{"else:1;else:2", 7}, {"else:1;in 3:1;else:1", 14}});
    }

    private static void keepersThatThereAre(Check check) {
        wrong(check, 0, new Object[][] {{"else:0", 5}, {"in 3:0", 5}});
        wrong(check, 1, new Object[][] {{"else:1", 5}, {"else:0 1", 7}});
        wrong(check, 3, new Object[][] {{"in 3:3", 5}, {"in 3:2 3", 7}, {"in 3:999", 5}});
        dueTurns(check, withKeepers(1), "else:0", 1, "0", "0");
        dueTurns(check, withKeepers(3), "else:2", 1, "2", "2");
        dueTurns(check, withKeepers(12), "else:11", 1, "11", "11");
    }

    private static void twelveInALine(Check check) {
        String twelve = "0 1 2 3 4 5 6 7 8 9 10 11";
        dueTurns(check, withKeepers(12), "in 0:" + twelve, 1, twelve, "");
        dueTurns(check, withKeepers(12), "in 0:" + twelve + ";else:" + twelve, 2, twelve, twelve);
        wrong(check, 12, new Object[][] {{"in 0:" + twelve + " 0", 31}, {"in 0:" + twelve + " 12", 31},
            {"in 0:" + twelve + " 9999", 31}});
    }

    private static void noKeeperTwice(Check check) {
        wrong(check, 3, new Object[][] {{"in 3:1 1", 7}, {"in 3:1 2 1", 9}, {"else:2 002", 7}, {"in 3:0 1;in 4:2 0 2", 18}});
        dueTurns(check, withKeepers(3), "in 0:1 2;in 15:1 2", 2, "1 2", "1 2");
    }

    private static void blanks(Check check) {
        dueTurns(check, withKeepers(3), "  in  0  :  1  2  ;  else  :  0  ", 2, "1 2", "0");
        dueTurns(check, withKeepers(3), "in0:1 2;else:0", 2, "1 2", "0");
        wrong(check, 3, new Object[][] {{"in\t0:1", 2}, {"in 0:1\n", 6}, {"in 0:1" + (char) 160 + "2", 6}, {"i n 0:1", 0}});
    }

    private static void inPlaceOfThose(Check check) {
        SwarmLine line = withKeepers(3);
        dueTurns(check, line, "in 0:1 2 0;else:0;in 15:2", 3, "1 2 0", "2");
        dueTurns(check, line, "in 0:2", 1, "2", "");
        dueTurns(check, line, "else:1;in 3:0", 2, "1", "1");
        dueTurns(check, line, "in 3:0", 1, "", "");
    }

    private static void theyStay(Check check) {
        String[] texts = {"", "in 0:0;else:2;", "in 0:0;else:2;x", "in 0:0 3", "else:2 2"};
        for (String text : texts) {
            SwarmLine line = withKeepers(3);
            dueTurns(check, line, "in 0:1 2;else:0", 2, "1 2", "0");
            Check.tape(line, text);
            check.dueThrowAlone("'" + text + "'", IllegalArgumentException.class, line, line::rota);
            check.due("LINES", 2, line.count(6));
            check.dueState("asked in 0", "1 2", asked(line, 0));
            check.dueState("asked in 15", "0", asked(line, 1));
        }
    }

    private static void usesTheTapeUp(Check check) {
        SwarmLine line = withKeepers(1);
        Check.rota(line, "else:0");
        check.due("end(1) behind a right text", false, line.end(1));
        check.dueThrow("a second rota of the same text", IllegalArgumentException.class, line::rota);
        Check.tape(line, "else:1");
        check.dueThrow("a wrong text", IllegalArgumentException.class, line::rota);
        check.due("end(1) behind a wrong text", false, line.end(1));
        check.due("feed", 20, line.feed(0, 0, 0, 0, 0));
    }
}
