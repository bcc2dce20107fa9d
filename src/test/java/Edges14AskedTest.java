/** The edges of promise 14. */
public final class Edges14AskedTest {
    public static void main(String[] args) {
        Edges edges = new Edges("Promise 14");
        edges.of("number i, as they were asked", Edges14AskedTest::asTheyWereAsked);
        edges.of("what 0 the KEEPER, 1 what was AGAINST (0 nothing)", Edges14AskedTest::what);
        edges.of("NONE if there is none such", Edges14AskedTest::noneSuch);
        edges.of("NONE .. for another what", Edges14AskedTest::anotherWhat);
        edges.of("(no send() was made)", Edges14AskedTest::aheadOfAny);
        edges.of("by the latest send()", Edges14AskedTest::latest);
        edges.of("that threw nothing", Edges14AskedTest::threwNothing);
        edges.of("(as it was then, whatever comes later)", Edges14AskedTest::asItWas);
        edges.finish();
    }

    private static SwarmLine withTwelve() {
        SwarmLine line = new SwarmLine();
        for (int i = 0; i < 12; i++) {
            line.keeper(0, 0, 0, 0, 1, 0, 23);
        }
        Check.call(line, "at 0 0");
        Check.call(line, "at 19 19");
        return line;
    }

    private static void asTheyWereAsked(Check check) {
        SwarmLine line = withTwelve();
        Check.rota(line, "else:11 0 10 1 9 2 8 3 7 4 6 5");
        line.send(0);
        check.dueRow("asked", new int[] {11, 0, 10, 1, 9, 2, 8, 3, 7, 4, 6, 5, -1}, i -> line.asked(i, 0));
    }

    private static void what(Check check) {
        SwarmLine line = withTwelve();
        Check.rota(line, "else:5 6 7");
        line.boxes(6, 1);
        check.due("send", 6, line.send(0));
        check.dueRow("the KEEPER", new int[] {5, 6, -1}, i -> line.asked(i, 0));
        check.dueRow("AGAINST", new int[] {3, 0, -1}, i -> line.asked(i, 1));
    }

    private static void noneSuch(Check check) {
        SwarmLine line = withTwelve();
        Check.rota(line, "else:5 6 7");
        line.send(0);
        int[] none = {-1, 3, 12, Integer.MIN_VALUE, Integer.MAX_VALUE};
        for (int i : none) {
            check.due("number " + i, -1, line.asked(i, 0));
            check.due("AGAINST number " + i, -1, line.asked(i, 1));
        }
        Check.rota(line, "else:0 1 2 3 4 5 6 7 8 9 10 11");
        line.send(0);
        check.due("the last of 12", 11, line.asked(11, 0));
        check.due("a 13th", -1, line.asked(12, 0));
    }

    private static void anotherWhat(Check check) {
        SwarmLine line = withTwelve();
        Check.rota(line, "else:5");
        line.send(0);
        int[] others = {-1, 2, Integer.MIN_VALUE, Integer.MAX_VALUE};
        for (int what : others) {
            check.due("what " + what, -1, line.asked(0, what));
        }
    }

    private static void aheadOfAny(Check check) {
        SwarmLine line = withTwelve();
        Check.rota(line, "else:5");
        check.due("the KEEPER", -1, line.asked(0, 0));
        check.due("AGAINST", -1, line.asked(0, 1));
    }

    private static void latest(Check check) {
        SwarmLine line = withTwelve();
        Check.rota(line, "in 0:1 2 3;in 15:4");
        line.send(0);
        line.send(1);
        check.dueRow("asked", new int[] {4, -1, -1}, i -> line.asked(i, 0));
        Check.rota(line, "in 0:1 2 3");
        line.send(0);
        line.send(1);
        check.dueRow("nobody was asked by the latest", new int[] {-1, -1, -1}, i -> line.asked(i, 0));
    }

    private static void threwNothing(Check check) {
        SwarmLine line = withTwelve();
        line.boxes(4, 1);
        Check.rota(line, "in 0:1 2;in 15:4");
        line.send(1);
        line.send(0);
        check.dueThrow("no such CASE", IndexOutOfBoundsException.class, () -> line.send(2));
        check.dueRow("asked", new int[] {1, 2, -1}, i -> line.asked(i, 0));
        check.dueThrow("a SENT one", IllegalStateException.class, () -> line.send(1));
        check.dueRow("asked", new int[] {1, 2, -1}, i -> line.asked(i, 0));
    }

    private static void asItWas(Check check) {
        SwarmLine line = withTwelve();
        Check.rota(line, "else:1 2");
        line.send(0);
        line.boxes(1, 5);
        Check.rota(line, "else:7 8 9");
        line.hours(5);
        check.dueRow("asked", new int[] {1, 2, -1}, i -> line.asked(i, 0));
        check.dueRow("AGAINST", new int[] {3, 3, -1}, i -> line.asked(i, 1));
    }
}
