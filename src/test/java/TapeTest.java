/** Promises 2 (feed) and 3 (end). */
public final class TapeTest {
    public static void main(String[] args) {
        Check check = new Check("TapeTest");
        feedGrowsTo400(check);
        endCuts(check);
        bytesComeHighestFirst(check);
        allBytesAreKept(check);
        textsEndWithTheTape(check);
        textsUseTheTapeUp(check);
        check.finish();
    }

    private static void feedGrowsTo400(Check check) {
        SwarmLine line = new SwarmLine();
        for (int length = 20; length <= 400; length += 20) {
            check.due("feed", length, line.feed(0, -1, 5, 6, 7));
        }
        check.due("feed at 400", -1, line.feed(0, 0, 0, 0, 0));
        check.due("end(381)", true, line.end(381));
        check.due("feed at 381", -1, line.feed(0, 0, 0, 0, 0));
        check.due("none came", false, line.end(382));
        check.due("end(380)", true, line.end(380));
        check.due("feed at 380", 400, line.feed(0, 0, 0, 0, 0));
    }

    private static void endCuts(Check check) {
        SwarmLine line = new SwarmLine();
        check.due("end(0) of none", true, line.end(0));
        check.due("end(1) of none", false, line.end(1));
        line.feed(1, 2, 3, 4, 5);
        check.due("end(-1)", false, line.end(-1));
        check.due("end(least)", false, line.end(Integer.MIN_VALUE));
        check.due("end(greatest)", false, line.end(Integer.MAX_VALUE));
        check.due("end(21)", false, line.end(21));
        check.due("end(20)", true, line.end(20));
        check.due("end(7)", true, line.end(7));
        check.due("end(8)", false, line.end(8));
        check.due("feed at 7", 27, line.feed(1, 2, 3, 4, 5));
    }

    private static void bytesComeHighestFirst(Check check) {
        SwarmLine line = new SwarmLine();
        // "at 1", "2 13", ",hig", "h 5 ", "    "
        line.feed(0x61742031, 0x32203133, 0x2c686967, 0x68203520, 0x20202020);
        check.due("call()", 0, line.call());
        check.due("x", 12, line.matter(0, 1));
        check.due("y", 13, line.matter(0, 2));
        check.due("HIGH", 5, line.matter(0, 3));
    }

    private static void allBytesAreKept(Check check) {
        SwarmLine line = new SwarmLine();
        for (int i = 0; i < 19; i++) {
            line.feed(0x20202020, 0x20202020, 0x20202020, 0x20202020, 0x20202020);
        }
        line.feed(0x20202020, 0x20202020, 0x20202020, 0x20202020, 0x20202041);
        check.dueThrow("399 blanks and an A", IllegalArgumentException.class, line::call);
        check.due("fault()", 399, line.fault());
    }

    /** What stood behind the cut, or behind the last byte of all, belongs to no word, number or blanks. */
    private static void textsEndWithTheTape(Check check) {
        SwarmLine line = new SwarmLine();
        // "at 1 23, maybes here"
        line.feed(0x61742031, 0x2032332c, 0x206d6179, 0x62657320, 0x68657265);
        line.end(6);
        check.due("a NUMBER cut short", 0, line.call());
        check.due("y", 2, line.matter(0, 2));
        line.feed(0x61742031, 0x2032332c, 0x206d6179, 0x62657320, 0x68657265);
        line.end(14);
        check.dueThrow("a NUMBER that is not cut", IllegalArgumentException.class, line::call);
        check.due("fault()", 5, line.fault());
        // "at 1 2 , maybes here"
        line.feed(0x61742031, 0x2032202c, 0x206d6179, 0x62657320, 0x68657265);
        line.end(14);
        check.due("a word cut short", 0, line.call());
        line.feed(0x61742031, 0x2032202c, 0x206d6179, 0x62657320, 0x68657265);
        line.end(8);
        check.dueThrow("a blank cut off", IllegalArgumentException.class, line::call);
        check.due("fault()", 8, line.fault());
        String[] lasts = {"at 9 9", "at 9 9,maybe", "at 9 9   "};
        for (String last : lasts) {
            Check.tape(line, " ".repeat(400 - last.length()) + last);
            check.due("400 bytes", 1, line.call());
        }
    }

    private static void textsUseTheTapeUp(Check check) {
        SwarmLine line = new SwarmLine();
        Check.call(line, "at 1 1");
        check.due("end(1) behind a call", false, line.end(1));
        check.due("feed behind a call", 20, line.feed(0, 0, 0, 0, 0));
        check.dueThrow("rota of noughts", IllegalArgumentException.class, line::rota);
        check.due("end(1) behind a wrong rota", false, line.end(1));
        line.feed(0, 0, 0, 0, 0);
        check.dueThrow("call of noughts", IllegalArgumentException.class, line::call);
        check.due("end(1) behind a wrong call", false, line.end(1));
    }
}
