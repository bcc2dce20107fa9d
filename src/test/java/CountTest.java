/** Promise 22 (count). */
public final class CountTest {
    public static void main(String[] args) {
        Check check = new Check("CountTest");
        SwarmLine line = new SwarmLine();
        int[] others = {-1, 12, Integer.MIN_VALUE, Integer.MAX_VALUE};
        for (int other : others) {
            check.due("count(" + other + ")", -1, line.count(other));
        }
        HiveTest.warm(line, 8, 18);
        line.hive(10, 10, 20001, 1000, 3);
        line.hive(3, 3, 2001, 1000, 0);
        line.hive(16, 16, 700, 1000, 0);
        line.keeper(8, 13, 3, 9, 10, 0, 23);
        line.keeper(0, 19, 3, 9, 1, 0, 23);
        check.due("rota", 2, Check.rota(line, "in 9:0;else:1"));
        line.hours(60);
        check.dueRow("count at 60", new int[] {60, 3, 2, 2, 0, 0, 2, 2, 0, 0, 0, 22702}, line::count);
        Check.call(line, "at 8 13");
        Check.call(line, "at 8 13");
        Check.call(line, "at 19 1");
        Check.call(line, "at 0 0");
        check.dueRow("count with CASES", new int[] {60, 3, 2, 2, 3, 4, 2, 2, 0, 0, 3, 22702}, line::count);
        check.due("send", 0, line.send(0));
        check.due("SENT is not OPEN", 2, line.count(10));
        line.hours(1);
        check.dueRow("count with one HAD", new int[] {61, 3, 2, 2, 3, 4, 2, 1, 1, 0, 2, 22702}, line::count);
        line.hours(29);
        check.dueRow("count with one GONE", new int[] {90, 3, 2, 2, 3, 4, 2, 0, 1, 1, 2, 21702}, line::count);
        check.finish();
    }
}
