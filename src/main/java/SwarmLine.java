import java.util.ArrayList;
import java.util.Arrays;
import java.util.NoSuchElementException;

/** A line for calls about swarms of bees; the numbers in comments are those of the document's terms. */
public final class SwarmLine {
    public static final int NONE = -1;

    private static final int LAST_HOUR = 743;
    private static final int HOURS_OF_A_DAY = 24;
    private static final int NOON = 12;
    private static final int MOST_HOURS_AT_ONCE = 100;
    private static final int FED_AT_ONCE = 20;

    private static final int LAST_COLUMN = 19;
    private static final int DISTRICT_SIDE = 5;
    private static final int DISTRICTS_A_ROW = 4;

    private static final int MOST_HIVES = 20;
    private static final int MOST_SWARMS = 60;
    private static final int MOST_KEEPERS = 12;
    private static final int MOST_CASES = 60;
    private static final int MOST_CALLS = 200;

    private static final int MOST_BEES = 100000;
    private static final int LEAST_ROOM = 1000;
    private static final int MOST_ROOM = 100000;
    private static final int LAST_MARK = 7;
    private static final int MOST_BOXES = 20;
    private static final int HIGHEST = 9;
    private static final int FASTEST = 10;

    private static final int FIRST_PATIENCE = 60;
    private static final int NEAR = 1;
    private static final int ALIKE_HOURS = 6;
    private static final int ORIGIN_HOURS = 60;
    private static final int ORIGIN_STEPS = 3;
    private static final int CASES_AT_ONCE = 8;

    private static final int HANGS = 0;
    private static final int HAD = 1;
    private static final int GONE = 2;

    private static final int OPEN = 0;
    private static final int SENT = 1;
    private static final int DONE = 2;
    private static final int FALSE = 3;

    private static final int AT_HOME = 0;
    private static final int OUT_TO_CASE = 1;
    private static final int ON_WAY_BACK = 2;

    private static final int NOTHING_AGAINST = 0;
    private static final int OFF_DUTY = 1;
    private static final int IS_OUT = 2;
    private static final int NO_BOX = 3;
    private static final int LADDER_TOO_SHORT = 4;

    private final Tape tape = new Tape();
    private final Facts facts = new Facts();
    private final Sky sky = new Sky();
    private final Asked askedLast = new Asked();
    private final ArrayList<Hive> hives = new ArrayList<>();
    private final ArrayList<Swarm> swarms = new ArrayList<>();
    private final ArrayList<Keeper> keepers = new ArrayList<>();
    private final ArrayList<Case> cases = new ArrayList<>();
    private final int[] reach = new int[CASES_AT_ONCE];
    private Turns turns = new Turns();
    private Turns draft = new Turns();
    private int calls = 0;
    private int now = 0;
    private int wrongByte = NONE;

    public SwarmLine() {
    }

    public int feed(int a, int b, int c, int d, int e) {
        if (!tape.hasRoomFor(FED_AT_ONCE)) {
            return NONE;
        }
        tape.append(a);
        tape.append(b);
        tape.append(c);
        tape.append(d);
        tape.append(e);
        return tape.length;
    }

    public boolean end(int n) {
        return tape.cutTo(n);
    }

    public void weather(int day, int warmth, int bloom)
            throws IndexOutOfBoundsException, IllegalArgumentException, IllegalStateException {
        if (!Sky.isDay(day)) {
            throw new IndexOutOfBoundsException("no such day");
        }
        if (!Sky.isWarmth(warmth) || !isWithin(bloom, 0, Sky.FULL_BLOOM)) {
            throw new IllegalArgumentException("no warmth or no bloom");
        }
        if (day <= today() && now > 0) {
            throw new IllegalStateException("the day has begun");
        }
        sky.warmth[day] = warmth;
        sky.bloom[day] = bloom;
    }

    public void foretell(int day, int least, int greatest)
            throws IndexOutOfBoundsException, IllegalArgumentException {
        if (!Sky.isDay(day)) {
            throw new IndexOutOfBoundsException("no such day");
        }
        if (!Sky.isWarmth(least) || !Sky.isWarmth(greatest) || least > greatest) {
            throw new IllegalArgumentException("no bounds of a warmth");
        }
        sky.least[day] = least;
        sky.greatest[day] = greatest;
    }

    public int hive(int x, int y, int bees, int room, int mark)
            throws IllegalArgumentException, UnsupportedOperationException {
        if (!isPlace(x, y) || !isWithin(bees, 0, MOST_BEES)
                || !isWithin(room, LEAST_ROOM, MOST_ROOM) || !isWithin(mark, 0, LAST_MARK)) {
            throw new IllegalArgumentException("no such hive can be");
        }
        if (hives.size() >= MOST_HIVES) {
            throw new UnsupportedOperationException("too many hives");
        }
        hives.add(new Hive(x, y, bees, room, mark));
        return hives.size() - 1;
    }

    public int keeper(int x, int y, int boxes, int ladder, int pace, int from, int to)
            throws IllegalArgumentException, UnsupportedOperationException {
        if (!isPlace(x, y) || !isWithin(boxes, 0, MOST_BOXES) || !isWithin(ladder, 0, HIGHEST)
                || !isWithin(pace, 1, FASTEST) || !isHourOfDay(from) || !isHourOfDay(to)) {
            throw new IllegalArgumentException("no such keeper can be");
        }
        if (keepers.size() >= MOST_KEEPERS) {
            throw new UnsupportedOperationException("too many keepers");
        }
        keepers.add(new Keeper(x, y, boxes, ladder, pace, from, to));
        return keepers.size() - 1;
    }

    public int boxes(int keeper, int n) throws IndexOutOfBoundsException, IllegalArgumentException {
        Keeper given = keeperNumbered(keeper);
        if (!isWithin(n, 0, MOST_BOXES)) {
            throw new IllegalArgumentException("no such number of boxes");
        }
        given.boxes = Math.min(given.boxes + n, MOST_BOXES);
        return given.boxes;
    }

    public int hours(int n) throws IllegalArgumentException {
        if (!isWithin(n, 0, MOST_HOURS_AT_ONCE)) {
            throw new IllegalArgumentException("no such number of hours");
        }
        for (int i = 0; i < n && now < LAST_HOUR; i++) {
            passHour();
        }
        return now;
    }

    public int call() throws IllegalArgumentException, UnsupportedOperationException {
        boolean right = facts.readFrom(tape, now);
        closeText(right);
        if (!right) {
            throw new IllegalArgumentException("the text is wrong");
        }
        if (calls >= MOST_CALLS) {
            throw new UnsupportedOperationException("too many calls");
        }
        int number = firstCaseAlike();
        if (number == NONE) {
            if (cases.size() >= MOST_CASES) {
                throw new UnsupportedOperationException("too many cases");
            }
            number = cases.size();
            cases.add(new Case(facts.x, facts.y));
        }
        caseNumbered(number).melt(facts, now);
        calls++;
        return number;
    }

    public int rota() throws IllegalArgumentException {
        boolean right = draft.readFrom(tape, keepers.size());
        closeText(right);
        if (!right) {
            throw new IllegalArgumentException("the text is wrong");
        }
        Turns former = turns;
        turns = draft;
        draft = former;
        return turns.lines;
    }

    public int fault() {
        return wrongByte;
    }

    public int send(int aCase) throws IndexOutOfBoundsException, IllegalStateException {
        Case opened = caseNumbered(aCase);
        if (opened.state != OPEN) {
            throw new IllegalStateException("the case is not open");
        }
        askedLast.clear();
        int line = turns.lineFor(districtOf(opened.x, opened.y));
        for (int i = 0; i < turns.sizeOf(line); i++) {
            int number = turns.keeperAt(line, i);
            Keeper asked = keeperNumbered(number);
            int against = whatIsAgainst(asked, opened);
            askedLast.add(number, against);
            if (against == NOTHING_AGAINST) {
                asked.setOut(aCase, opened.x, opened.y);
                opened.state = SENT;
                opened.keeper = number;
                return number;
            }
        }
        return NONE;
    }

    public int asked(int i, int what) {
        return askedLast.told(i, what);
    }

    public int left(int aCase, boolean least) throws IndexOutOfBoundsException {
        return hourGone(caseNumbered(aCase), least);
    }

    public int most() {
        int opened = 0;
        for (int i = 0; i < cases.size() && opened < CASES_AT_ONCE; i++) {
            if (cases.get(i).state == OPEN) {
                reach[opened] = keepersWhoCouldGo(cases.get(i));
                opened++;
            }
        }
        return greatestMatching(reach, opened);
    }

    public int origin(int swarm) throws IndexOutOfBoundsException, IllegalStateException {
        Swarm caught = swarmNumbered(swarm);
        if (caught.state != HAD) {
            throw new IllegalStateException("nobody has the swarm");
        }
        int mark = caseNumbered(caught.aCase).mark;
        int found = NONE;
        for (int i = 0; i < hives.size(); i++) {
            if (hives.get(i).agreesWith(caught, mark)) {
                if (found != NONE) {
                    return NONE;
                }
                found = i;
            }
        }
        return found;
    }

    public int look(int hive, int what) throws IndexOutOfBoundsException, NoSuchElementException {
        if (hive < 0 || hive >= hives.size()) {
            throw new IndexOutOfBoundsException("no such hive");
        }
        return hives.get(hive).told(what);
    }

    public int swarm(int swarm, int what) throws IndexOutOfBoundsException, NoSuchElementException {
        return swarmNumbered(swarm).told(what);
    }

    public int crew(int keeper, int what) throws IndexOutOfBoundsException, NoSuchElementException {
        return keeperNumbered(keeper).told(what);
    }

    public int matter(int aCase, int what) throws IndexOutOfBoundsException, NoSuchElementException {
        return caseNumbered(aCase).told(what);
    }

    public int count(int what) {
        switch (what) {
            case 0: return now;
            case 1: return hives.size();
            case 2: return swarms.size();
            case 3: return keepers.size();
            case 4: return cases.size();
            case 5: return calls;
            case 6: return turns.lines;
            case 7: return swarmsThatAre(HANGS);
            case 8: return swarmsThatAre(HAD);
            case 9: return swarmsThatAre(GONE);
            case 10: return openCases();
            case 11: return allBees();
            default: return NONE;
        }
    }

    private Swarm swarmNumbered(int number) {
        if (number < 0 || number >= swarms.size()) {
            throw new IndexOutOfBoundsException("no such swarm");
        }
        return swarms.get(number);
    }

    private Keeper keeperNumbered(int number) {
        if (number < 0 || number >= keepers.size()) {
            throw new IndexOutOfBoundsException("no such keeper");
        }
        return keepers.get(number);
    }

    private Case caseNumbered(int number) {
        if (number < 0 || number >= cases.size()) {
            throw new IndexOutOfBoundsException("no such case");
        }
        return cases.get(number);
    }

    private int today() {
        return now / HOURS_OF_A_DAY;
    }

    /** Term 2; its order is told: swarms, keepers, hives. */
    private void passHour() {
        now++;
        int loss = Sky.lossAt(sky.warmthOf(today()));
        for (int i = 0; i < swarms.size(); i++) {
            swarms.get(i).losePatience(loss, now);
        }
        for (int i = 0; i < keepers.size(); i++) {
            moveKeeper(i, keepers.get(i));
        }
        if (now % HOURS_OF_A_DAY == NOON) {
            for (int i = 0; i < hives.size(); i++) {
                passNoon(i, hives.get(i));
            }
        }
    }

    private void moveKeeper(int number, Keeper moved) {
        if (moved.state == AT_HOME) {
            return;
        }
        moved.hoursToGo--;
        if (moved.hoursToGo > 0) {
            return;
        }
        if (moved.state == ON_WAY_BACK) {
            moved.comeHome();
        } else {
            workAtCase(number, moved);
            moved.turnBack();
        }
    }

    private void workAtCase(int number, Keeper worker) {
        Case reached = caseNumbered(worker.aCase);
        int nearest = nearestSwarm(reached.x, reached.y);
        if (nearest == NONE) {
            reached.state = FALSE;
            return;
        }
        Swarm found = swarmNumbered(nearest);
        if (found.height > worker.ladder) {
            reached.state = OPEN;
            reached.high = Math.max(reached.high, found.height);
            return;
        }
        found.isHadBy(number, worker.aCase, now);
        worker.boxes--;
        worker.swarmsHad++;
        reached.state = DONE;
        reached.swarm = nearest;
    }

    private int nearestSwarm(int x, int y) {
        int nearest = NONE;
        int fewest = NEAR + 1;
        for (int i = 0; i < swarms.size(); i++) {
            Swarm seen = swarms.get(i);
            int steps = stepsBetween(seen.x, seen.y, x, y);
            if (seen.state == HANGS && steps < fewest) {
                nearest = i;
                fewest = steps;
            }
        }
        return nearest;
    }

    private void passNoon(int number, Hive grown) {
        int day = today();
        grown.grow(sky.bloomOf(day), sky.warmthOf(day));
        if (grown.isRipe() && swarms.size() < MOST_SWARMS) {
            swarms.add(new Swarm(number, grown, now));
            grown.loseHalf(now);
        }
    }

    private void closeText(boolean right) {
        wrongByte = right ? NONE : tape.begin;
        tape.cutTo(0);
    }

    private int firstCaseAlike() {
        for (int i = 0; i < cases.size(); i++) {
            if (cases.get(i).isAlike(facts, now)) {
                return i;
            }
        }
        return NONE;
    }

    private int whatIsAgainst(Keeper asked, Case opened) {
        if (!asked.isOnDuty(now % HOURS_OF_A_DAY)) {
            return OFF_DUTY;
        }
        if (asked.state != AT_HOME) {
            return IS_OUT;
        }
        if (asked.boxes < 1) {
            return NO_BOX;
        }
        return asked.ladder < opened.high ? LADDER_TOO_SHORT : NOTHING_AGAINST;
    }

    /** NONE without a since. */
    private int hourGone(Case told, boolean soonest) {
        return told.since == NONE ? NONE : sky.hourGone(told.since, today(), soonest);
    }

    /** As a set of bits, so that the keepers of several cases can be joined at once. */
    private int keepersWhoCouldGo(Case opened) {
        int gone = hourGone(opened, true);
        int set = 0;
        for (int i = 0; i < keepers.size(); i++) {
            Keeper free = keepers.get(i);
            if (whatIsAgainst(free, opened) == NOTHING_AGAINST
                    && (gone == NONE || now + free.hoursTo(opened.x, opened.y) < gone)) {
                set |= 1 << i;
            }
        }
        return set;
    }

    /**
     * By Koenig's theorem as many can be matched as the least number, over all sets of cases, of the
     * cases outside of the set and the keepers who could go into it: no search with steps back is needed.
     */
    private static int greatestMatching(int[] reach, int many) {
        int greatest = many;
        for (int set = 0; set < 1 << many; set++) {
            int outside = many;
            int goers = 0;
            for (int i = 0; i < many && i < reach.length; i++) {
                if ((set >> i & 1) == 1) {
                    outside--;
                    goers |= reach[i];
                }
            }
            greatest = Math.min(greatest, outside + Integer.bitCount(goers));
        }
        return greatest;
    }

    private int swarmsThatAre(int state) {
        int many = 0;
        for (int i = 0; i < swarms.size(); i++) {
            if (swarms.get(i).state == state) {
                many++;
            }
        }
        return many;
    }

    private int openCases() {
        int many = 0;
        for (int i = 0; i < cases.size(); i++) {
            if (cases.get(i).state == OPEN) {
                many++;
            }
        }
        return many;
    }

    private int allBees() {
        int bees = 0;
        for (int i = 0; i < hives.size(); i++) {
            bees += hives.get(i).bees;
        }
        for (int i = 0; i < swarms.size(); i++) {
            if (swarms.get(i).state != GONE) {
                bees += swarms.get(i).bees;
            }
        }
        return bees;
    }

    private static boolean isWithin(int number, int least, int greatest) {
        return number >= least && number <= greatest;
    }

    private static boolean isPlace(int x, int y) {
        return isWithin(x, 0, LAST_COLUMN) && isWithin(y, 0, LAST_COLUMN);
    }

    private static boolean isHourOfDay(int hour) {
        return isWithin(hour, 0, HOURS_OF_A_DAY - 1);
    }

    private static int districtOf(int x, int y) {
        return y / DISTRICT_SIDE * DISTRICTS_A_ROW + x / DISTRICT_SIDE;
    }

    private static int stepsBetween(int x, int y, int otherX, int otherY) {
        return Math.max(Math.abs(x - otherX), Math.abs(y - otherY));
    }

    private static final class Sky {
        private static final int LAST_DAY = 30;
        private static final int COLDEST = -20;
        private static final int WARMEST = 40;
        private static final int FULL_BLOOM = 100;
        private static final int WARM = 18;
        private static final int HOT = 25;

        private final int[] warmth = new int[LAST_DAY + 1];
        private final int[] bloom = new int[LAST_DAY + 1];
        private final int[] least = new int[LAST_DAY + 1];
        private final int[] greatest = new int[LAST_DAY + 1];

        Sky() {
            Arrays.fill(warmth, 15);
            Arrays.fill(bloom, 50);
            Arrays.fill(least, COLDEST);
            Arrays.fill(greatest, WARMEST);
        }

        static boolean isDay(int day) {
            return isWithin(day, 0, LAST_DAY);
        }

        static boolean isWarmth(int number) {
            return isWithin(number, COLDEST, WARMEST);
        }

        static int lossAt(int warmth) {
            if (warmth >= HOT) {
                return 3;
            }
            return warmth >= WARM ? 2 : 1;
        }

        /** Term 5; patience is lost by 1 an hour at least, so the loop ends. */
        int hourGone(int since, int today, boolean soonest) {
            int patience = FIRST_PATIENCE;
            int hour = since;
            while (patience > 0 && hour < since + FIRST_PATIENCE) {
                hour++;
                patience -= lossAt(reckonedWarmth(hour / HOURS_OF_A_DAY, today, soonest));
            }
            return hour;
        }

        int warmthOf(int day) {
            return warmth[held(day)];
        }

        int bloomOf(int day) {
            return bloom[held(day)];
        }

        private int reckonedWarmth(int day, int today, boolean soonest) {
            if (day <= today) {
                return warmthOf(day);
            }
            return soonest ? greatest[held(day)] : least[held(day)];
        }

        /** What is reckoned may reach behind the last day: that one counts there (5). */
        private static int held(int day) {
            return Math.max(0, Math.min(day, LAST_DAY));
        }
    }

    private static final class Hive {
        private static final int WARM_DAYS = 3;

        private final int x;
        private final int y;
        private final int room;
        private final int mark;
        private int bees;
        private int warm = 0;
        private int swarmedLast = NONE;

        Hive(int x, int y, int bees, int room, int mark) {
            this.x = x;
            this.y = y;
            this.bees = bees;
            this.room = room;
            this.mark = mark;
        }

        void grow(int bloom, int warmth) {
            bees = Math.min(bees + bees * bloom / 1000, MOST_BEES);
            warm = warmth >= Sky.WARM ? warm + 1 : 0;
        }

        boolean isRipe() {
            return bees > room && warm >= WARM_DAYS;
        }

        void loseHalf(int hour) {
            bees -= bees / 2;
            warm = 0;
            swarmedLast = hour;
        }

        boolean agreesWith(Swarm caught, int markTold) {
            return swarmedLast != NONE
                    && isWithin(caught.ended - swarmedLast, 0, ORIGIN_HOURS)
                    && stepsBetween(x, y, caught.x, caught.y) <= ORIGIN_STEPS
                    && (markTold == 0 || markTold == mark);
        }

        int told(int what) {
            switch (what) {
                case 0: return bees;
                case 1: return room;
                case 2: return mark;
                case 3: return warm;
                case 4: return swarmedLast;
                default: throw new NoSuchElementException("nothing such is told of a hive");
            }
        }
    }

    private static final class Swarm {
        private static final int SPREAD = 7;
        private static final int HALF_SPREAD = 3;

        private final int hive;
        private final int bees;
        private final int x;
        private final int y;
        private final int height;
        private final int leftAt;
        private int patience = FIRST_PATIENCE;
        private int state = HANGS;
        private int keeper = NONE;
        private int aCase = NONE;
        private int ended = NONE;

        /** The hive must still hold all of its bees: by them it is told where the swarm hangs (2c). */
        Swarm(int hive, Hive home, int now) {
            int day = now / HOURS_OF_A_DAY;
            this.hive = hive;
            bees = home.bees / 2;
            x = drifted(home.x, home.bees / 1000 + day);
            y = drifted(home.y, home.bees / 100 + day);
            height = home.bees / 10 % HIGHEST + 1;
            leftAt = now;
        }

        private static int drifted(int from, int seed) {
            return Math.max(0, Math.min(LAST_COLUMN, from + seed % SPREAD - HALF_SPREAD));
        }

        void losePatience(int loss, int now) {
            if (state != HANGS) {
                return;
            }
            patience -= loss;
            if (patience <= 0) {
                state = GONE;
                ended = now;
            }
        }

        void isHadBy(int keeperNumber, int caseNumber, int now) {
            state = HAD;
            keeper = keeperNumber;
            aCase = caseNumber;
            ended = now;
        }

        int told(int what) {
            switch (what) {
                case 0: return state;
                case 1: return hive;
                case 2: return bees;
                case 3: return x;
                case 4: return y;
                case 5: return height;
                case 6: return leftAt;
                case 7: return patience;
                case 8: return keeper;
                case 9: return ended;
                default: throw new NoSuchElementException("nothing such is told of a swarm");
            }
        }
    }

    private static final class Keeper {
        private final int x;
        private final int y;
        private final int ladder;
        private final int pace;
        private final int from;
        private final int to;
        private int boxes;
        private int state = AT_HOME;
        private int hoursOneWay = 0;
        private int hoursToGo = 0;
        private int aCase = NONE;
        private int swarmsHad = 0;

        Keeper(int x, int y, int boxes, int ladder, int pace, int from, int to) {
            this.x = x;
            this.y = y;
            this.boxes = boxes;
            this.ladder = ladder;
            this.pace = pace;
            this.from = from;
            this.to = to;
        }

        boolean isOnDuty(int hourOfDay) {
            if (from <= to) {
                return isWithin(hourOfDay, from, to);
            }
            return hourOfDay >= from || hourOfDay <= to;
        }

        /** Steps by pace, rounded up, 1 at least; counted up, so that nothing is divided by the pace. */
        int hoursTo(int placeX, int placeY) {
            int steps = stepsBetween(x, y, placeX, placeY);
            int hours = 1;
            while (hours < steps && hours * pace < steps) {
                hours++;
            }
            return hours;
        }

        void setOut(int caseNumber, int placeX, int placeY) {
            state = OUT_TO_CASE;
            aCase = caseNumber;
            hoursOneWay = hoursTo(placeX, placeY);
            hoursToGo = hoursOneWay;
        }

        void turnBack() {
            state = ON_WAY_BACK;
            hoursToGo = hoursOneWay;
        }

        void comeHome() {
            state = AT_HOME;
            aCase = NONE;
        }

        int told(int what) {
            switch (what) {
                case 0: return state;
                case 1: return boxes;
                case 2: return hoursToGo;
                case 3: return aCase;
                case 4: return swarmsHad;
                default: throw new NoSuchElementException("nothing such is told of a keeper");
            }
        }
    }

    private static final class Case {
        private int x;
        private int y;
        private boolean placeIsSure = false;
        private int state = OPEN;
        private int high = 0;
        private int since = NONE;
        private int mark = 0;
        private int callsMelted = 0;
        private int latest = NONE;
        private int keeper = NONE;
        private int swarm = NONE;

        Case(int x, int y) {
            this.x = x;
            this.y = y;
        }

        boolean isAlike(Facts facts, int now) {
            return (state == OPEN || state == SENT)
                    && stepsBetween(x, y, facts.x, facts.y) <= NEAR
                    && now - latest <= ALIKE_HOURS
                    && (mark == 0 || facts.mark == 0 || mark == facts.mark);
        }

        void melt(Facts facts, int now) {
            if (!facts.maybe && !placeIsSure) {
                x = facts.x;
                y = facts.y;
                placeIsSure = true;
            }
            high = Math.max(high, facts.high);
            if (facts.since != NONE && (since == NONE || facts.since < since)) {
                since = facts.since;
            }
            if (mark == 0) {
                mark = facts.mark;
            }
            callsMelted++;
            latest = now;
        }

        int told(int what) {
            switch (what) {
                case 0: return state;
                case 1: return x;
                case 2: return y;
                case 3: return high;
                case 4: return since;
                case 5: return mark;
                case 6: return callsMelted;
                case 7: return latest;
                case 8: return keeper;
                case 9: return swarm;
                default: throw new NoSuchElementException("nothing such is told of a case");
            }
        }
    }

    /** Kept apart from the turns, which may be told anew behind a sending. */
    private static final class Asked {
        private final int[] numbers = new int[MOST_KEEPERS];
        private final int[] against = new int[MOST_KEEPERS];
        private int many = 0;

        void clear() {
            many = 0;
        }

        void add(int number, int reason) {
            if (many < MOST_KEEPERS) {
                numbers[many] = number;
                against[many] = reason;
                many++;
            }
        }

        int told(int i, int what) {
            if (i < 0 || i >= many) {
                return NONE;
            }
            switch (what) {
                case 0: return numbers[i];
                case 1: return against[i];
                default: return NONE;
            }
        }
    }

    /**
     * The bytes that were fed, and where their reader stands: at one word, number or sign, or at the end.
     * Whatever is wrong in a text is wrong where that begins, so begin is the first wrong byte.
     */
    private static final class Tape {
        private static final int LONGEST = 400;
        private static final int BYTES_OF_A_NUMBER = 4;
        private static final int MOST_DIGITS = 3;
        private static final int END = 0;
        private static final int WORD = 1;
        private static final int NUMBER = 2;
        private static final int SIGN = 3;

        private final byte[] bytes = new byte[LONGEST];
        private int length = 0;
        private int begin = 0;
        private int behind = 0;
        private int kind = END;

        boolean hasRoomFor(int more) {
            return length + more <= LONGEST;
        }

        void append(int number) {
            if (!hasRoomFor(BYTES_OF_A_NUMBER)) {
                return;
            }
            for (int shift = 24; shift >= 0; shift -= 8) {
                bytes[length] = (byte) (number >> shift);
                length++;
            }
        }

        boolean cutTo(int n) {
            if (n < 0 || n > length) {
                return false;
            }
            length = n;
            return true;
        }

        void rewind() {
            behind = 0;
        }

        void advance() {
            while (behind < length && bytes[behind] == ' ') {
                behind++;
            }
            begin = behind;
            if (begin >= length) {
                kind = END;
            } else if (isLetter(bytes[begin])) {
                kind = WORD;
                while (behind < length && isLetter(bytes[behind])) {
                    behind++;
                }
            } else if (isDigit(bytes[begin])) {
                kind = NUMBER;
                while (behind < length && isDigit(bytes[behind])) {
                    behind++;
                }
            } else {
                kind = SIGN;
                behind++;
            }
        }

        boolean isAtEnd() {
            return kind == END;
        }

        boolean isAtNumber() {
            return kind == NUMBER;
        }

        boolean isNumberWithin(int least, int greatest) {
            int number = value();
            return number != NONE && isWithin(number, least, greatest);
        }

        /** NONE if no number is here, or one of too many digits. */
        int value() {
            if (kind != NUMBER || behind - begin > MOST_DIGITS) {
                return NONE;
            }
            int number = 0;
            for (int i = begin; i < behind; i++) {
                number = number * 10 + bytes[i] - '0';
            }
            return number;
        }

        boolean isSign(char sign) {
            return kind == SIGN && bytes[begin] == sign;
        }

        boolean isWord(String word) {
            if (kind != WORD || behind - begin != word.length()) {
                return false;
            }
            for (int i = 0; i < word.length(); i++) {
                if (bytes[begin + i] != word.charAt(i)) {
                    return false;
                }
            }
            return true;
        }

        private static boolean isLetter(byte b) {
            return b >= 'a' && b <= 'z';
        }

        private static boolean isDigit(byte b) {
            return b >= '0' && b <= '9';
        }
    }

    /** One object serves all calls: a text is melted into its case before the next one is read. */
    private static final class Facts {
        private static final int MOST_FACTS = 5;

        private int x;
        private int y;
        private int high;
        private int since;
        private int mark;
        private boolean maybe;

        /** False if the text is wrong; the tape stands at what is wrong then. */
        boolean readFrom(Tape tape, int now) {
            forget();
            tape.rewind();
            for (int i = 0; i < MOST_FACTS; i++) {
                tape.advance();
                if (!readFact(tape, now)) {
                    return false;
                }
                tape.advance();
                if (!tape.isSign(',')) {
                    return tape.isAtEnd() && x != NONE;
                }
            }
            tape.advance();
            return false;
        }

        private void forget() {
            x = NONE;
            y = NONE;
            high = 0;
            since = NONE;
            mark = 0;
            maybe = false;
        }

        private boolean readFact(Tape tape, int now) {
            if (tape.isWord("at")) {
                return x == NONE && readPlace(tape);
            }
            if (tape.isWord("high")) {
                return high == 0 && readHigh(tape);
            }
            if (tape.isWord("since")) {
                return since == NONE && readSince(tape, now);
            }
            if (tape.isWord("mark")) {
                return mark == 0 && readMark(tape);
            }
            boolean isFirst = tape.isWord("maybe") && !maybe;
            maybe = maybe || isFirst;
            return isFirst;
        }

        private boolean readPlace(Tape tape) {
            x = readNumber(tape, 0, LAST_COLUMN);
            if (x == NONE) {
                return false;
            }
            y = readNumber(tape, 0, LAST_COLUMN);
            return y != NONE;
        }

        private boolean readHigh(Tape tape) {
            high = readNumber(tape, 1, HIGHEST);
            return high != NONE;
        }

        private boolean readSince(Tape tape, int now) {
            since = readNumber(tape, 0, now);
            return since != NONE;
        }

        private boolean readMark(Tape tape) {
            mark = readNumber(tape, 1, LAST_MARK);
            return mark != NONE;
        }

        private static int readNumber(Tape tape, int least, int greatest) {
            tape.advance();
            return tape.isNumberWithin(least, greatest) ? tape.value() : NONE;
        }
    }

    /** The turns by districts (3); a district whose row has no keeper has no line. */
    private static final class Turns {
        private static final int OTHERS = 16;
        private static final int MOST_LINES = 10;

        private final int[][] rows = new int[OTHERS + 1][MOST_KEEPERS];
        private final int[] sizes = new int[OTHERS + 1];
        private int lines = 0;

        int lineFor(int district) {
            return sizeOf(district) > 0 ? district : OTHERS;
        }

        int sizeOf(int line) {
            return isWithin(line, 0, OTHERS) ? sizes[line] : 0;
        }

        int keeperAt(int line, int i) {
            return i >= 0 && i < sizeOf(line) ? rows[line][i] : NONE;
        }

        /** False if the text is wrong; the tape stands at what is wrong then. */
        boolean readFrom(Tape tape, int keepersKnown) {
            Arrays.fill(sizes, 0);
            lines = 0;
            tape.rewind();
            while (lines < MOST_LINES) {
                tape.advance();
                if (!readLine(tape, keepersKnown)) {
                    return false;
                }
                lines++;
                if (!tape.isSign(';')) {
                    return tape.isAtEnd();
                }
            }
            tape.advance();
            return false;
        }

        private boolean readLine(Tape tape, int keepersKnown) {
            int line = readDistrict(tape);
            if (!isWithin(line, 0, OTHERS)) {
                return false;
            }
            tape.advance();
            if (!tape.isSign(':')) {
                return false;
            }
            tape.advance();
            for (int i = 0; i < MOST_KEEPERS; i++) {
                if (!tape.isNumberWithin(0, keepersKnown - 1) || holds(line, tape.value())) {
                    return false;
                }
                rows[line][i] = tape.value();
                sizes[line] = i + 1;
                tape.advance();
                if (!tape.isAtNumber()) {
                    return true;
                }
            }
            return false;
        }

        /** The row of a district that has no line yet, or NONE. */
        private int readDistrict(Tape tape) {
            int district = OTHERS;
            if (!tape.isWord("else")) {
                if (!tape.isWord("in")) {
                    return NONE;
                }
                tape.advance();
                if (!tape.isNumberWithin(0, OTHERS - 1)) {
                    return NONE;
                }
                district = tape.value();
            }
            return sizeOf(district) == 0 ? district : NONE;
        }

        private boolean holds(int line, int keeperNumber) {
            for (int i = 0; i < sizeOf(line); i++) {
                if (keeperAt(line, i) == keeperNumber) {
                    return true;
                }
            }
            return false;
        }
    }
}
