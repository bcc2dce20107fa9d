/** The edges of promise 2. */
public final class Edges02FeedTest {
    private static final int BLANKS = 0x20202020;

    public static void main(String[] args) {
        Edges edges = new Edges("Promise 2");
        edges.of("Twenty bytes come behind the TAPE", Edges02FeedTest::behindTheTape);
        edges.of("of each number the highest first", Edges02FeedTest::highestFirst);
        edges.of("(bytes above 127, of numbers below 0)", Edges02FeedTest::highBytes);
        edges.of("how many it has", Edges02FeedTest::howMany);
        edges.of("NONE .. if it would have more than 400", Edges02FeedTest::noMoreThan400);
        edges.of("and none come, if it would have more than 400", Edges02FeedTest::noneCome);
        edges.finish();
    }

    private static void behindTheTape(Check check) {
        SwarmLine line = new SwarmLine();
        // "at 1" and what is cut off behind it; the 2 of "2 3" comes right behind the 1
        line.feed(0x61742031, 0x41414141, 0x41414141, 0x41414141, 0x41414141);
        line.end(4);
        line.feed(0x32203320, BLANKS, BLANKS, BLANKS, BLANKS);
        check.due("call()", 0, line.call());
        check.due("x", 12, line.matter(0, 1));
        check.due("y", 3, line.matter(0, 2));
        line.feed(BLANKS, BLANKS, BLANKS, BLANKS, BLANKS);
        line.feed(BLANKS, BLANKS, BLANKS, BLANKS, 0x20202041);
        check.dueThrow("an A behind 39 blanks", IllegalArgumentException.class, line::call);
        check.due("fault()", 39, line.fault());
    }

    private static void highestFirst(Check check) {
        SwarmLine line = new SwarmLine();
        // "at 1", "2 13", ",hig", "h 5,", "mark" and " 7"
        line.feed(0x61742031, 0x32203133, 0x2c686967, 0x6820352c, 0x6d61726b);
        line.feed(0x20372020, BLANKS, BLANKS, BLANKS, BLANKS);
        check.due("call()", 0, line.call());
        check.dueRow("matter", new int[] {0, 12, 13, 5, -1, 7}, what -> line.matter(0, what));
    }

    private static void highBytes(Check check) {
        int[] numbers = {-1, Integer.MIN_VALUE, 0x80000000 | BLANKS, 0xa0202020, 0xe1742031};
        for (int number : numbers) {
            SwarmLine line = new SwarmLine();
            check.due("feed", 20, line.feed(BLANKS, BLANKS, number, BLANKS, BLANKS));
            check.dueThrow("a sign that is none", IllegalArgumentException.class, line::call);
            check.due("fault() of " + number, 8, line.fault());
        }
    }

    private static void howMany(Check check) {
        SwarmLine line = new SwarmLine();
        check.due("of none", 20, line.feed(0, 0, 0, 0, 0));
        check.due("of 20", 40, line.feed(-1, -1, -1, -1, -1));
        line.end(7);
        check.due("of 7", 27, line.feed(0, 0, 0, 0, 0));
        line.end(0);
        check.due("of none again", 20, line.feed(0, 0, 0, 0, 0));
    }

    private static void noMoreThan400(Check check) {
        SwarmLine line = new SwarmLine();
        for (int length = 20; length <= 400; length += 20) {
            check.due("up to 400", length, line.feed(0, 0, 0, 0, 0));
        }
        check.due("of 400", -1, line.feed(0, 0, 0, 0, 0));
        line.end(399);
        check.due("of 399", -1, line.feed(0, 0, 0, 0, 0));
        line.end(381);
        check.due("of 381", -1, line.feed(0, 0, 0, 0, 0));
        line.end(380);
        check.due("of 380", 400, line.feed(0, 0, 0, 0, 0));
    }

    private static void noneCome(Check check) {
        SwarmLine line = new SwarmLine();
        for (int i = 0; i < 20; i++) {
            line.feed(BLANKS, BLANKS, BLANKS, BLANKS, BLANKS);
        }
        line.end(381);
        check.due("of 381", -1, line.feed(0x41414141, 0, 0, 0, 0));
        check.due("end(382)", false, line.end(382));
        check.due("end(381)", true, line.end(381));
        check.dueThrow("381 blanks", IllegalArgumentException.class, line::call);
        check.due("fault(): the length of what it has", 381, line.fault());
    }
}
