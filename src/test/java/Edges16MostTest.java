/** The edges of promise 16. */
public final class Edges16MostTest {
    public static void main(String[] args) {
        Edges edges = new Edges("Promise 16");
        edges.of("(no CASES, or no KEEPERS)", Edges16MostTest::none);
        edges.of("of a CASE that is OPEN", Edges16MostTest::openCases);
        edges.of("a KEEPER with nothing AGAINST it", Edges16MostTest::nothingAgainst);
        edges.of("(whatever the TURNS tell)", Edges16MostTest::whateverTurns);
        edges.of("if the CASE has no SINCE", Edges16MostTest::noSince);
        edges.of("NOW and the KEEPER's HOURS to it are together below the least HOUR", Edges16MostTest::belowLeastHour);
        edges.of("of the first 8 OPEN CASES", Edges16MostTest::firstEight);
        edges.of("and all KEEPERS", Edges16MostTest::allKeepers);
        edges.of("to each of which another KEEPER COULD GO", Edges16MostTest::anotherKeeper);
        edges.of("the greatest number of CASES", Edges16MostTest::greatestNumber);
        edges.of("(nothing happens by it)", Edges16MostTest::nothingHappens);
        edges.finish();
    }

    private static SwarmLine withKeepers(int many) {
        SwarmLine line = new SwarmLine();
        for (int i = 0; i < many; i++) {
            Town.keeperAt(line, 0, 0, 1);
        }
        return line;
    }

    private static void cases(SwarmLine line, int many, String facts) {
        for (int i = 0; i < many; i++) {
            Check.call(line, Town.placeOf(line.count(4)) + facts);
        }
    }

    private static void none(Check check) {
        check.due("neither", 0, new SwarmLine().most());
        check.due("no CASES", 0, withKeepers(12).most());
        SwarmLine line = new SwarmLine();
        cases(line, 9, "");
        check.due("no KEEPERS", 0, line.most());
    }

    private static void openCases(Check check) {
        SwarmLine line = Town.withSwarm();
        Town.keeperAt(line, 10, 10, 5);
        Check.call(line, "at 10 10");
        check.due("OPEN", 1, line.most());
        line.send(0);
        check.due("SENT", 0, line.most());
        line.hours(1);
        check.due("DONE", 0, line.most());
        line.hours(1);
        Town.callAndSend(line, "at 10 10");
        line.hours(1);
        check.due("FALSE", 3, line.matter(1, 0));
        check.due("FALSE too", 0, line.most());
    }

    private static void nothingAgainst(Check check) {
        int[][] due = {{1, 5, 0, 0, 1}, {1, 5, 23, 23, 0}, {0, 5, 0, 0, 0}, {1, 4, 0, 0, 0}};
        for (int[] d : due) {
            SwarmLine line = new SwarmLine();
            line.keeper(0, 0, d[0], d[1], 10, d[2], d[3]);
            Check.call(line, "at 1 1,high 5");
            check.due("BOXES " + d[0] + ", LADDER " + d[1] + ", DUTY from " + d[2], d[4], line.most());
        }
        SwarmLine out = withKeepers(1);
        Check.rota(out, "else:0");
        Town.callAndSend(out, "at 9 9");
        Check.call(out, "at 1 1");
        check.due("OUT to a CASE", 0, out.most());
        out.hours(1);
        check.due("on the way back", 0, out.most());
        out.hours(1);
        check.due("at HOME", 1, out.most());
    }

    private static void whateverTurns(Check check) {
        SwarmLine line = withKeepers(2);
        cases(line, 2, "");
        check.due("no TURNS", 2, line.most());
        Check.rota(line, "in 15:1");
        check.due("TURNS of another DISTRICT", 2, line.most());
        Check.rota(line, "else:1");
        check.due("TURNS without KEEPER 0", 2, line.most());
    }

    private static void noSince(Check check) {
        SwarmLine line = new SwarmLine();
        line.keeper(0, 0, 1, 9, 1, 0, 23);
        Check.hours(line, 743);
        Check.call(line, "at 19 19");
        check.due("19 HOURS at 743", 1, line.most());
    }

    /** The least hour of SINCE 0 is 36 as long as day 1 is foretold, and 60 from 24 on. */
    private static void belowLeastHour(Check check) {
        int[][] due = {{16, 19, 1}, {17, 19, 0}, {18, 19, 0}, {17, 18, 1}, {23, 12, 1}, {23, 13, 0}, {40, 19, 1},
            {41, 19, 0}, {58, 1, 1}, {59, 1, 0}, {60, 1, 0}, {100, 1, 0}};
        for (int[] d : due) {
            SwarmLine line = new SwarmLine();
            line.keeper(0, 0, 1, 9, 1, 0, 23);
            line.hours(d[0]);
            Check.call(line, "at " + d[1] + " 0,since 0");
            line.foretell(2, 0, 0);
            check.due("the least HOUR at " + d[0], d[0] < 24 ? 36 : 60, line.left(0, true));
            check.due("NOW " + d[0] + " and " + d[1] + " HOURS", d[2], line.most());
        }
        SwarmLine sure = new SwarmLine();
        sure.keeper(0, 0, 1, 9, 1, 0, 23);
        sure.hours(17);
        Check.call(sure, "at 19 0,since 0");
        check.due("the greatest HOUR does not count", 60, sure.left(0, false));
        check.due("by the least one", 0, sure.most());
        sure.foretell(1, 0, 24);
        check.due("by a later one", 1, sure.most());
    }

    private static void firstEight(Check check) {
        SwarmLine line = withKeepers(12);
        cases(line, 8, "");
        check.due("8", 8, line.most());
        cases(line, 2, "");
        check.due("10", 8, line.most());
        SwarmLine behind = new SwarmLine();
        behind.keeper(0, 0, 1, 5, 1, 0, 23);
        behind.keeper(0, 0, 1, 6, 1, 0, 23);
        cases(behind, 7, ",high 9");
        cases(behind, 1, ",high 6");
        check.due("the 8th counts", 1, behind.most());
        cases(behind, 1, ",high 5");
        check.due("the 9th does not", 1, behind.most());
        SwarmLine sent = withKeepers(1);
        sent.keeper(0, 0, 1, 5, 10, 0, 23);
        cases(sent, 1, "");
        cases(sent, 7, ",high 9");
        cases(sent, 1, ",high 5");
        Check.rota(sent, "else:0");
        check.due("the first and one that is high", 2, sent.most());
        sent.send(0);
        check.due("without the first the 9th is the 8th that is OPEN", 1, sent.most());
    }

    private static void allKeepers(Check check) {
        SwarmLine line = new SwarmLine();
        for (int i = 0; i < 11; i++) {
            line.keeper(0, 0, 0, 9, 1, 0, 23);
        }
        Town.keeperAt(line, 0, 0, 1);
        cases(line, 3, "");
        check.due("the 12th alone", 1, line.most());
        line.boxes(0, 1);
        check.due("the first and the 12th", 2, line.most());
    }

    private static void anotherKeeper(Check check) {
        SwarmLine one = withKeepers(1);
        cases(one, 5, "");
        check.due("one KEEPER, 5 CASES", 1, one.most());
        one.boxes(0, 19);
        check.due("20 BOXES do not help", 1, one.most());
        SwarmLine many = withKeepers(5);
        cases(many, 1, "");
        check.due("5 KEEPERS, one CASE", 1, many.most());
        cases(many, 3, "");
        check.due("5 KEEPERS, 4 CASES", 4, many.most());
    }

    /** Whoever takes the first that could go, in any order of numbers, gets fewer. */
    private static void greatestNumber(Check check) {
        int[][] ladders = {{9, 8, 7, 6, 5, 4, 3, 2}, {2, 3, 4, 5, 6, 7, 8, 9}, {5, 9, 2, 7, 3, 8, 4, 6}};
        int[][] highs = {{2, 3, 4, 5, 6, 7, 8, 9}, {9, 8, 7, 6, 5, 4, 3, 2}, {6, 3, 8, 2, 9, 5, 7, 4}};
        for (int[] ladder : ladders) {
            for (int[] high : highs) {
                SwarmLine line = new SwarmLine();
                for (int l : ladder) {
                    line.keeper(0, 0, 1, l, 1, 0, 23);
                }
                for (int h : high) {
                    cases(line, 1, ",high " + h);
                }
                check.due("each has another one", 8, line.most());
            }
        }
        SwarmLine line = new SwarmLine();
        int[] few = {3, 3, 9};
        for (int l : few) {
            line.keeper(0, 0, 1, l, 1, 0, 23);
        }
        cases(line, 1, "");
        cases(line, 3, ",high 5");
        check.due("three CASES for one KEEPER", 2, line.most());
    }

    private static void nothingHappens(Check check) {
        SwarmLine line = withKeepers(3);
        cases(line, 3, ",since 0");
        String ahead = Check.stateOf(line);
        line.most();
        check.dueState("behind most()", ahead, Check.stateOf(line));
    }
}
