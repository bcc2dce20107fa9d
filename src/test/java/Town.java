/** Scenes that the tests of the edges share. */
final class Town {
    /** The hour at which the swarms of hiveFor hang. */
    static final int SWARMING = 60;

    private Town() {
    }

    /** Its first days are so warm, and nothing blooms in them. */
    static SwarmLine warm(int days, int warmth) {
        SwarmLine line = new SwarmLine();
        for (int day = 0; day < days; day++) {
            line.weather(day, warmth, 0);
        }
        return line;
    }

    /** Days 0 to 2 let hives swarm at 60; by 18 a swarm loses 2 an hour until 71, and 1 an hour from 72 on. */
    static SwarmLine ripe() {
        return warm(3, 18);
    }

    /**
     * A hive whose swarm hangs at x y, so high, from 60 on: by 1001 to 1081 bees and day 2 it hangs where the
     * hive lies by x ((1 + 2) % 7 - 3) and two steps on by y ((10 + 2) % 7 - 3).
     */
    static int hiveFor(SwarmLine line, int x, int y, int height, int mark) {
        return line.hive(x, y - 2, 1001 + 10 * ((height + 7) % 9), 1000, mark);
    }

    /** Always on duty, with a ladder for all. */
    static int keeperAt(SwarmLine line, int x, int y, int boxes) {
        return line.keeper(x, y, boxes, 9, 10, 0, 23);
    }

    /** A swarm of height 2 hangs at 10 10, and keeper 0 lives there: NOW is 60. */
    static SwarmLine withSwarm() {
        SwarmLine line = ripe();
        hiveFor(line, 10, 10, 2, 0);
        keeperAt(line, 10, 10, 5);
        Check.rota(line, "else:0");
        line.hours(SWARMING);
        return line;
    }

    /** The keeper sent is at the case an hour later. */
    static int callAndSend(SwarmLine line, String text) {
        int number = Check.call(line, text);
        line.send(number);
        return number;
    }

    /** Twenty bytes that need no end(): what is missing are blanks. */
    static void feedPadded(SwarmLine line, String text) {
        int[] numbers = new int[5];
        for (int i = 0; i < 20; i++) {
            numbers[i / 4] = numbers[i / 4] << 8 | (i < text.length() ? text.charAt(i) : ' ');
        }
        line.feed(numbers[0], numbers[1], numbers[2], numbers[3], numbers[4]);
    }

    /** A place for each of 60 cases, two steps and more from all others. */
    static String placeOf(int number) {
        return "at " + number % 10 * 2 + " " + number / 10 * 2;
    }
}
