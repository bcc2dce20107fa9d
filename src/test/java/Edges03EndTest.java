/** The edges of promise 3. */
public final class Edges03EndTest {
    public static void main(String[] args) {
        Edges edges = new Edges("Promise 3");
        edges.of("The TAPE has its first n bytes alone: true", Edges03EndTest::firstBytesAlone);
        edges.of("(n is 0, or all that it has)", Edges03EndTest::noneOrAll);
        edges.of("false .. if it has fewer", Edges03EndTest::hasFewer);
        edges.of("false .. if .. n is below 0", Edges03EndTest::belowNought);
        edges.of("and nothing happens, if it has fewer, or n is below 0", Edges03EndTest::nothingHappens);
        edges.finish();
    }

    /** "at 1 2,high 3,mark 4": twenty bytes. */
    private static void feedText(SwarmLine line) {
        line.feed(0x61742031, 0x20322c68, 0x69676820, 0x332c6d61, 0x726b2034);
    }

    private static void firstBytesAlone(Check check) {
        SwarmLine line = new SwarmLine();
        feedText(line);
        check.due("end(13)", true, line.end(13));
        check.due("call()", 0, line.call());
        check.due("HIGH", 3, line.matter(0, 3));
        check.due("no MARK", 0, line.matter(0, 5));
        feedText(line);
        check.due("end(12)", true, line.end(12));
        check.dueThrow("a cut NUMBER", IllegalArgumentException.class, line::call);
        check.due("fault()", 12, line.fault());
    }

    private static void noneOrAll(Check check) {
        SwarmLine line = new SwarmLine();
        check.due("end(0) of none", true, line.end(0));
        feedText(line);
        check.due("end(20) of 20", true, line.end(20));
        check.due("call()", 0, line.call());
        check.due("MARK", 4, line.matter(0, 5));
        feedText(line);
        check.due("end(0) of 20", true, line.end(0));
        check.dueThrow("no bytes", IllegalArgumentException.class, line::call);
        check.due("fault()", 0, line.fault());
    }

    private static void hasFewer(Check check) {
        SwarmLine line = new SwarmLine();
        check.due("end(1) of none", false, line.end(1));
        feedText(line);
        check.due("end(21) of 20", false, line.end(21));
        check.due("end(greatest)", false, line.end(Integer.MAX_VALUE));
        line.end(7);
        check.due("end(8) of 7", false, line.end(8));
        check.due("end(7) of 7", true, line.end(7));
    }

    private static void belowNought(Check check) {
        SwarmLine line = new SwarmLine();
        check.due("end(-1) of none", false, line.end(-1));
        feedText(line);
        check.due("end(-1)", false, line.end(-1));
        check.due("end(-20)", false, line.end(-20));
        check.due("end(least)", false, line.end(Integer.MIN_VALUE));
    }

    private static void nothingHappens(Check check) {
        int[] refused = {-1, Integer.MIN_VALUE, 21, Integer.MAX_VALUE};
        for (int n : refused) {
            SwarmLine line = new SwarmLine();
            feedText(line);
            line.end(n);
            int length = line.feed(0x20202020, 0x20202020, 0x20202020, 0x20202020, 0x20202020);
            check.due("feed behind end(" + n + ")", 40, length);
            check.due("call() behind end(" + n + ")", 0, line.call());
            check.dueRow("matter behind end(" + n + ")", new int[] {0, 1, 2, 3, -1, 4}, what -> line.matter(0, what));
        }
    }
}
