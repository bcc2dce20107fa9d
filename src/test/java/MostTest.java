import java.util.Random;

/** Promise 16 (most): against every way to match, tried one after the other. */
public final class MostTest {
    private static final int[][] PLACES = {{1, 1}, {1, 5}, {1, 9}, {5, 1}, {5, 5}, {5, 9}, {9, 1}, {9, 5}, {9, 9},
        {13, 1}, {13, 5}, {13, 9}};

    public static void main(String[] args) {
        Check check = new Check("MostTest");
        plain(check);
        stepsBackAreNeeded(check);
        eightCasesAtMost(check);
        inTime(check);
        againstEveryMatching(check);
        check.finish();
    }

    private static void plain(Check check) {
        SwarmLine line = new SwarmLine();
        check.due("nothing", 0, line.most());
        line.keeper(0, 0, 1, 5, 1, 0, 0);
        check.due("no CASE", 0, line.most());
        Check.call(line, "at 0 0,high 6");
        check.due("too high", 0, line.most());
        Check.call(line, "at 5 5,high 5");
        check.due("one of two, whatever the TURNS", 1, line.most());
        Check.call(line, "at 9 9");
        check.due("one KEEPER, one CASE", 1, line.most());
        line.keeper(0, 0, 0, 9, 1, 0, 0);
        check.due("without a BOX", 1, line.most());
        line.boxes(1, 1);
        check.due("with a BOX", 2, line.most());
        Check.rota(line, "else:1");
        line.send(2);
        check.due("one is OUT", 1, line.most());
        line.hours(1);
        check.due("not on DUTY", 0, line.most());
        check.due("nothing happened", 2, line.count(10));
    }

    private static void stepsBackAreNeeded(Check check) {
        SwarmLine line = new SwarmLine();
        int[] ladders = {9, 8, 7, 6};
        for (int ladder : ladders) {
            line.keeper(0, 0, 1, ladder, 1, 0, 23);
        }
        String[] texts = {"at 1 1,high 6", "at 4 4,high 7", "at 7 7,high 8", "at 10 10,high 9"};
        for (String text : texts) {
            Check.call(line, text);
        }
        check.due("each has another one", 4, line.most());
        Check.call(line, "at 13 13,high 9");
        check.due("no fifth", 4, line.most());
    }

    private static void eightCasesAtMost(Check check) {
        SwarmLine line = new SwarmLine();
        for (int i = 0; i < 12; i++) {
            line.keeper(0, 0, 1, 5, 1, 0, 23);
        }
        for (int i = 0; i < 10; i++) {
            Check.call(line, "at " + 2 * i + " 0" + (i < 3 ? ",high 6" : ""));
        }
        check.due("the first 8 alone, 3 of them too high", 5, line.most());
        Check.rota(line, "else:0");
        line.send(3);
        check.due("the first 8 that are OPEN", 5, line.most());
        SwarmLine full = new SwarmLine();
        for (int i = 0; i < 12; i++) {
            full.keeper(0, 0, 1, 5, 1, 0, 23);
            Check.call(full, "at " + PLACES[i][0] + " " + PLACES[i][1]);
        }
        check.due("8 at most", 8, full.most());
    }

    private static void inTime(Check check) {
        // the least HOUR is 36 at first; 19 steps take as many HOURS
        int[][] due = {{16, 1}, {17, 0}, {18, 0}};
        for (int[] d : due) {
            SwarmLine line = new SwarmLine();
            line.keeper(0, 0, 1, 9, 1, 0, 23);
            line.hours(d[0]);
            Check.call(line, "at 19 0,since 0");
            check.due("least HOUR", 36, line.left(0, true));
            check.due("NOW " + d[0], d[1], line.most());
            Check.call(line, "at 0 19");
            check.due("NOW " + d[0] + " and one without SINCE", 1, line.most());
        }
    }

    private static void againstEveryMatching(Check check) {
        Random random = new Random(20261116);
        for (int run = 0; run < 400; run++) {
            SwarmLine line = new SwarmLine();
            line.hours(20);
            int keepers = random.nextInt(13);
            int[][] crew = new int[keepers][];
            for (int i = 0; i < keepers; i++) {
                crew[i] = new int[] {random.nextInt(20), random.nextInt(20), random.nextInt(10),
                    1 + random.nextInt(10), random.nextInt(5) == 0 ? 0 : 1};
                line.keeper(crew[i][0], crew[i][1], crew[i][4], crew[i][2], crew[i][3], 0, 23);
            }
            int many = random.nextInt(PLACES.length + 1);
            int[] high = new int[many];
            int[] since = new int[many];
            for (int i = 0; i < many; i++) {
                high[i] = 1 + random.nextInt(9);
                since[i] = random.nextInt(21);
                Check.call(line, "at " + PLACES[i][0] + " " + PLACES[i][1] + ",high " + high[i] + ",since " + since[i]);
            }
            boolean[][] could = new boolean[Math.min(8, many)][keepers];
            for (int i = 0; i < could.length; i++) {
                for (int k = 0; k < keepers; k++) {
                    int steps = Math.max(Math.abs(crew[k][0] - PLACES[i][0]), Math.abs(crew[k][1] - PLACES[i][1]));
                    int to = Math.max(1, (int) Math.ceil(steps / (double) crew[k][3]));
                    could[i][k] = crew[k][4] > 0 && crew[k][2] >= high[i] && 20 + to < line.left(i, true);
                }
            }
            check.due("run " + run, greatest(could, 0, 0), line.most());
        }
    }

    private static int greatest(boolean[][] could, int from, int used) {
        if (from == could.length) {
            return 0;
        }
        int best = greatest(could, from + 1, used);
        for (int k = 0; k < could[from].length && best < could.length - from; k++) {
            if (could[from][k] && (used >> k & 1) == 0) {
                best = Math.max(best, 1 + greatest(could, from + 1, used | 1 << k));
            }
        }
        return best;
    }
}
