/** Peace on the stairs: neighbours' quarrels brought to talk. */
public final class QuietStairs {
    public static final int NUMBER = -1;
    public static final int FULL = -2;
    public static final int TWICE = -3;
    public static final int STATE = -4;
    public static final int NONE = -5;

    private static final int MOST_PARTIES = 8;
    private static final int MOST_MEDIATORS = 4;
    private static final int MOST_CASES = 6;
    private static final int MOST_MARKS = 6;
    private static final int MOST_ROUNDS = 5;
    private static final int MOST_TERMS = 5;
    private static final int MOST_ROOMS = 2;
    private static final int MOST_PLANNED = 4;

    private static final int LAST_FLOOR = 9;
    private static final int LAST_TONGUE = 2;
    private static final int ALL_TONGUES = 7;
    private static final int LAST_WEIGHT = 9;
    private static final int LAST_OFFER = 100;
    private static final int LAST_ACT = 5;
    private static final int LAST_LOGGED = 7;
    private static final int SIDES = 2;
    private static final int DAYS = 3;
    private static final int PAIRS = 6;
    private static final int HOURS = 24;

    private static final int IS_OPEN = 0;
    private static final int IS_SETTLED = 1;
    private static final int IS_CLOSED = 2;

    private static final int BROKEN = 0;
    private static final int KEPT = 1;
    private static final int UNKNOWN = 2;

    private static final int UNKNOWN_ACT = 7;
    private static final int NO_OFFER = -1;
    private static final int UNSEATED = PAIRS * DAYS;
    private static final int UNSEATED_WAIT = 4;

    private static final int[] LESSER_OF_PAIR = {0, 0, 0, 1, 1, 2};
    private static final int[] OTHER_OF_PAIR = {1, 2, 3, 2, 3, 3};

    private final House now = new House();
    private final Planner planner = new Planner();
    private final Table table = new Table();
    private House kept = null;
    private int roomCount = 1;

    public QuietStairs() {
    }

    // ---- who

    public int party(int floor, int tongue) {
        if (!isWithin(floor, 0, LAST_FLOOR) || !isWithin(tongue, 0, LAST_TONGUE)) {
            return NUMBER;
        }
        if (now.partyCount >= MOST_PARTIES) {
            return FULL;
        }
        Party comer = now.parties[now.partyCount];
        comer.floor = floor;
        comer.tongue = tongue;
        return now.partyCount++;
    }

    public int mediator(int floor, int tongues) {
        if (!isWithin(floor, 0, LAST_FLOOR) || !isWithin(tongues, 1, ALL_TONGUES)) {
            return NUMBER;
        }
        if (now.mediatorCount >= MOST_MEDIATORS) {
            return FULL;
        }
        Mediator comer = now.mediators[now.mediatorCount];
        comer.floor = floor;
        comer.tongues = tongues;
        comer.kinBits = 0;
        return now.mediatorCount++;
    }

    public int kin(int mediator, int party, boolean is) {
        if (!isMediator(mediator) || !isParty(party)) {
            return NUMBER;
        }
        Mediator one = now.mediators[mediator];
        if (hasBit(one.kinBits, party) == is) {
            return 0;
        }
        one.kinBits ^= 1 << party;
        return 1;
    }

    public int open(int asks, int gives) {
        if (!isParty(asks) || !isParty(gives) || asks == gives) {
            return NUMBER;
        }
        if (now.caseCount >= MOST_CASES) {
            return FULL;
        }
        now.cases[now.caseCount].begin(asks, gives);
        return now.caseCount++;
    }

    public int close(int one) {
        if (!isCase(one)) {
            return NUMBER;
        }
        if (now.cases[one].state != IS_OPEN) {
            return STATE;
        }
        now.cases[one].state = IS_CLOSED;
        return 1;
    }

    public int weight(int one, int v) {
        if (!isCase(one) || !isWithin(v, 1, LAST_WEIGHT)) {
            return NUMBER;
        }
        int before = now.cases[one].weight;
        now.cases[one].weight = v;
        return before;
    }

    public int mark(int one, int other) {
        if (!isCase(one) || !isCase(other) || one == other) {
            return NUMBER;
        }
        if (hasBit(now.cases[one].markedBits, other)) {
            return TWICE;
        }
        if (now.markCount >= MOST_MARKS) {
            return FULL;
        }
        now.cases[one].markedBits |= 1 << other;
        now.cases[other].markedBits |= 1 << one;
        now.markCount++;
        return now.markCount;
    }

    public int of(int one, int what) {
        if (!isCase(one)) {
            return NUMBER;
        }
        Case asked = now.cases[one];
        switch (what) {
            case 0:
                return asked.parties[0];
            case 1:
                return asked.parties[1];
            case 2:
                return asked.state;
            case 3:
                return asked.state == IS_SETTLED ? asked.sum : NONE;
            case 4:
                return asked.roundsOver;
            case 5:
                return now.headOfQuarrel(one);
            case 6:
                return Integer.bitCount(now.quarrelBits(one));
            case 7:
                return asked.weight;
            default:
                return NUMBER;
        }
    }

    // ---- the box

    public int offer(int one, int side, int v) {
        if (!isCase(one) || !isSide(side) || !isWithin(v, 0, LAST_OFFER)) {
            return NUMBER;
        }
        Case found = now.cases[one];
        if (found.state != IS_OPEN) {
            return STATE;
        }
        if (found.box[side] != NO_OFFER) {
            return TWICE;
        }
        if (found.roundsOver >= MOST_ROUNDS) {
            return FULL;
        }
        found.box[side] = v;
        if (found.box[1 - side] == NO_OFFER) {
            return 0;
        }
        return found.endRound() ? 1 : 2;
    }

    public int put(int one, int side) {
        if (!isCase(one) || !isSide(side)) {
            return NUMBER;
        }
        return now.cases[one].box[side] == NO_OFFER ? 0 : 1;
    }

    public int learns(int one, int side, int round, boolean greatest) {
        if (!isCase(one) || !isSide(side)) {
            return NUMBER;
        }
        Case asked = now.cases[one];
        if (!isWithin(round, 0, asked.roundsOver - 1)) {
            return NONE;
        }
        return greatest ? asked.greatestOfOther(side, round) : asked.leastOfOther(side, round);
    }

    // ---- sittings

    public int maySit(int pair, int one) {
        if (!isWithin(pair, 0, PAIRS - 1) || !now.hasPair(pair) || !isCase(one)) {
            return NUMBER;
        }
        return now.pairFits(pair, now.cases[one]) ? 1 : 0;
    }

    public int rooms(int v) {
        if (!isWithin(v, 1, MOST_ROOMS)) {
            return NUMBER;
        }
        int before = roomCount;
        roomCount = v;
        return before;
    }

    public int plan(int one) {
        if (!isCase(one)) {
            return NUMBER;
        }
        if (now.cases[one].state != IS_OPEN) {
            return STATE;
        }
        planner.findPlan(now, roomCount);
        return planner.seatOf(one);
    }

    public int waits() {
        planner.findPlan(now, roomCount);
        return planner.leastWait;
    }

    // ---- terms

    public int term(int one, int side, boolean must, int act, int a, int b) {
        if (!isCase(one) || !isSide(side) || !isWithin(act, 0, LAST_ACT)
                || !isHour(a) || !isHour(b) || a > b) {
            return NUMBER;
        }
        Case settled = now.cases[one];
        if (settled.state != IS_SETTLED) {
            return STATE;
        }
        if (settled.termCount >= MOST_TERMS) {
            return FULL;
        }
        Term comer = settled.terms[settled.termCount];
        comer.side = side;
        comer.must = must;
        comer.act = act;
        comer.first = a;
        comer.last = b;
        return settled.termCount++;
    }

    public int strike(int one) {
        if (!isCase(one)) {
            return NUMBER;
        }
        if (now.cases[one].termCount == 0) {
            return NONE;
        }
        now.cases[one].termCount--;
        return now.cases[one].termCount;
    }

    public int termOf(int one, int term, int what) {
        if (!isTerm(one, term)) {
            return NUMBER;
        }
        Term asked = now.cases[one].terms[term];
        switch (what) {
            case 0:
                return asked.side;
            case 1:
                return asked.must ? 1 : 0;
            case 2:
                return asked.act;
            case 3:
                return asked.first;
            case 4:
                return asked.last;
            default:
                return NUMBER;
        }
    }

    public int hour(int one, int term) {
        if (!isTerm(one, term)) {
            return NUMBER;
        }
        Case asked = now.cases[one];
        if (!asked.terms[term].must) {
            return STATE;
        }
        table.read(asked, asked.terms[term].side, asked.termCount);
        return table.stands() ? table.hourOf(term) : NONE;
    }

    public int canHold(int one, int side) {
        if (!isCase(one) || !isSide(side)) {
            return NUMBER;
        }
        table.read(now.cases[one], side, now.cases[one].termCount);
        return table.stands() ? 1 : 0;
    }

    public int breaks(int one, int side) {
        if (!isCase(one) || !isSide(side)) {
            return NUMBER;
        }
        Case asked = now.cases[one];
        for (int last = 0; last < asked.termCount; last++) {
            if (asked.terms[last].side == side) {
                table.read(asked, side, last + 1);
                if (!table.stands()) {
                    return last;
                }
            }
        }
        return NONE;
    }

    public int log(int one, int side, int hour, int act) {
        if (!isCase(one) || !isSide(side) || !isHour(hour) || !isWithin(act, 0, LAST_LOGGED)) {
            return NUMBER;
        }
        int[] row = now.cases[one].logs[side];
        int before = row[hour];
        row[hour] = act;
        return before;
    }

    public int judged(int one, int term) {
        if (!isTerm(one, term)) {
            return NUMBER;
        }
        return now.cases[one].judge(term);
    }

    public int many(int what) {
        switch (what) {
            case 0:
                return now.partyCount;
            case 1:
                return now.mediatorCount;
            case 2:
                return now.caseCount;
            case 3:
                return now.countState(IS_OPEN);
            case 4:
                return now.countState(IS_SETTLED);
            case 5:
                return now.markCount;
            case 6:
                return now.countQuarrels();
            case 7:
                return now.countTerms();
            case 8:
                return now.countJudged(KEPT);
            case 9:
                return now.countJudged(BROKEN);
            case 10:
                return now.countJudged(UNKNOWN);
            default:
                return NUMBER;
        }
    }

    // ---- kept

    public int keep() {
        if (kept == null) {
            kept = new House();
        }
        kept.copyFrom(now);
        return 1;
    }

    public int back() {
        if (kept == null) {
            return NONE;
        }
        now.copyFrom(kept);
        return 1;
    }

    // ---- which numbers may be

    private boolean isParty(int number) {
        return isWithin(number, 0, now.partyCount - 1);
    }

    private boolean isMediator(int number) {
        return isWithin(number, 0, now.mediatorCount - 1);
    }

    private boolean isCase(int number) {
        return isWithin(number, 0, now.caseCount - 1);
    }

    private boolean isTerm(int one, int term) {
        return isCase(one) && isWithin(term, 0, now.cases[one].termCount - 1);
    }

    private static boolean isSide(int number) {
        return isWithin(number, 0, SIDES - 1);
    }

    private static boolean isHour(int number) {
        return isWithin(number, 0, HOURS - 1);
    }

    private static boolean isWithin(int number, int least, int greatest) {
        return number >= least && number <= greatest;
    }

    private static boolean hasBit(int bits, int at) {
        return (bits >> at & 1) == 1;
    }

    private static final class Party {
        int floor;
        int tongue;

        void copyFrom(Party model) {
            floor = model.floor;
            tongue = model.tongue;
        }
    }

    private static final class Mediator {
        int floor;
        int tongues;
        int kinBits;

        void copyFrom(Mediator model) {
            floor = model.floor;
            tongues = model.tongues;
            kinBits = model.kinBits;
        }
    }

    private static final class Term {
        int side;
        boolean must;
        int act;
        int first;
        int last;

        int hourBits() {
            return (1 << last + 1) - (1 << first);
        }

        void copyFrom(Term model) {
            side = model.side;
            must = model.must;
            act = model.act;
            first = model.first;
            last = model.last;
        }
    }

    /** A CASE; what stands for each SIDE is a row with the SIDE as its index. */
    private static final class Case {
        int state;
        int sum;
        int roundsOver;
        int weight;
        int markedBits;
        int termCount;
        final int[] parties = new int[SIDES];
        final int[] box = new int[SIDES];
        final int[][] offers = new int[SIDES][MOST_ROUNDS];
        final int[][] logs = new int[SIDES][HOURS];
        final Term[] terms = new Term[MOST_TERMS];

        Case() {
            for (int i = 0; i < MOST_TERMS; i++) {
                terms[i] = new Term();
            }
        }

        /** Sets all of it: before a way back this row may have been another CASE. */
        void begin(int asks, int gives) {
            state = IS_OPEN;
            sum = 0;
            roundsOver = 0;
            weight = 1;
            markedBits = 0;
            termCount = 0;
            parties[0] = asks;
            parties[1] = gives;
            for (int side = 0; side < SIDES; side++) {
                box[side] = NO_OFFER;
                for (int hour = 0; hour < HOURS; hour++) {
                    logs[side][hour] = UNKNOWN_ACT;
                }
            }
        }

        /** Ends the ROUND of the two numbers in the box, and says whether they MEET. */
        boolean endRound() {
            int asked = box[0];
            int given = box[1];
            if (roundsOver < MOST_ROUNDS) {
                offers[0][roundsOver] = asked;
                offers[1][roundsOver] = given;
                roundsOver++;
            }
            if (given >= asked) {
                // The document empties the box only where they don't meet.
                state = IS_SETTLED;
                sum = (asked + given) / 2;
                return true;
            }
            box[0] = NO_OFFER;
            box[1] = NO_OFFER;
            return false;
        }

        /** Only the latest ROUND can have met: no ROUND follows it. */
        boolean hasMet(int round) {
            return state == IS_SETTLED && round == roundsOver - 1;
        }

        // Of a sum that was halved with the rest away, 2 sum and 2 sum + 1 are both possible.

        int leastOfOther(int side, int round) {
            int own = offers[side][round];
            if (!hasMet(round)) {
                return side == 0 ? 0 : own + 1;
            }
            int bound = side == 0 ? own : 0;
            return Math.max(bound, 2 * sum - own);
        }

        int greatestOfOther(int side, int round) {
            int own = offers[side][round];
            if (!hasMet(round)) {
                return side == 0 ? own - 1 : LAST_OFFER;
            }
            int bound = side == 0 ? LAST_OFFER : own;
            return Math.min(bound, 2 * sum + 1 - own);
        }

        int judge(int number) {
            Term term = terms[number];
            boolean allKnown = true;
            for (int hour = term.first; hour <= term.last; hour++) {
                int done = logs[term.side][hour];
                if (done == term.act) {
                    return term.must ? KEPT : BROKEN;
                }
                if (done == UNKNOWN_ACT) {
                    allKnown = false;
                }
            }
            if (!allKnown) {
                return UNKNOWN;
            }
            return term.must ? BROKEN : KEPT;
        }

        void copyFrom(Case model) {
            state = model.state;
            sum = model.sum;
            roundsOver = model.roundsOver;
            weight = model.weight;
            markedBits = model.markedBits;
            termCount = model.termCount;
            for (int side = 0; side < SIDES; side++) {
                parties[side] = model.parties[side];
                box[side] = model.box[side];
                System.arraycopy(model.offers[side], 0, offers[side], 0, roundsOver);
                System.arraycopy(model.logs[side], 0, logs[side], 0, HOURS);
            }
            for (int i = 0; i < termCount; i++) {
                terms[i].copyFrom(model.terms[i]);
            }
        }
    }

    /**
     * All that is kept: every PARTY, MEDIATOR, CASE and MARK, but not the ROOMS. Rows behind a
     * count are left as they are, so whoever comes to one sets all of it.
     */
    private static final class House {
        int partyCount;
        int mediatorCount;
        int caseCount;
        int markCount;
        final Party[] parties = new Party[MOST_PARTIES];
        final Mediator[] mediators = new Mediator[MOST_MEDIATORS];
        final Case[] cases = new Case[MOST_CASES];

        House() {
            for (int i = 0; i < MOST_PARTIES; i++) {
                parties[i] = new Party();
            }
            for (int i = 0; i < MOST_MEDIATORS; i++) {
                mediators[i] = new Mediator();
            }
            for (int i = 0; i < MOST_CASES; i++) {
                cases[i] = new Case();
            }
        }

        boolean hasPair(int pair) {
            return OTHER_OF_PAIR[pair] < mediatorCount;
        }

        boolean pairFits(int pair, Case heard) {
            Mediator lesser = mediators[LESSER_OF_PAIR[pair]];
            Mediator other = mediators[OTHER_OF_PAIR[pair]];
            int tongues = lesser.tongues | other.tongues;
            for (int side = 0; side < SIDES; side++) {
                int number = heard.parties[side];
                if (!hasBit(tongues, parties[number].tongue)
                        || isNear(lesser, number) || isNear(other, number)) {
                    return false;
                }
            }
            return true;
        }

        boolean isNear(Mediator one, int party) {
            return hasBit(one.kinBits, party) || one.floor == parties[party].floor;
        }

        /** The CASES of a CASE's QUARREL; as many steps as there are CASES reach them all. */
        int quarrelBits(int one) {
            int bits = 1 << one;
            for (int step = 1; step < caseCount; step++) {
                for (int i = 0; i < caseCount; i++) {
                    if (hasBit(bits, i)) {
                        bits |= cases[i].markedBits;
                    }
                }
            }
            return bits;
        }

        int headOfQuarrel(int one) {
            int bits = quarrelBits(one);
            for (int i = 0; i < one; i++) {
                if (hasBit(bits, i)) {
                    return i;
                }
            }
            return one;
        }

        int countQuarrels() {
            int count = 0;
            for (int i = 0; i < caseCount; i++) {
                if (headOfQuarrel(i) == i) {
                    count++;
                }
            }
            return count;
        }

        int countState(int state) {
            int count = 0;
            for (int i = 0; i < caseCount; i++) {
                if (cases[i].state == state) {
                    count++;
                }
            }
            return count;
        }

        int countTerms() {
            int count = 0;
            for (int i = 0; i < caseCount; i++) {
                count += cases[i].termCount;
            }
            return count;
        }

        int countJudged(int judgement) {
            int count = 0;
            for (int i = 0; i < caseCount; i++) {
                for (int term = 0; term < cases[i].termCount; term++) {
                    if (cases[i].judge(term) == judgement) {
                        count++;
                    }
                }
            }
            return count;
        }

        void copyFrom(House model) {
            partyCount = model.partyCount;
            mediatorCount = model.mediatorCount;
            caseCount = model.caseCount;
            markCount = model.markCount;
            for (int i = 0; i < partyCount; i++) {
                parties[i].copyFrom(model.parties[i]);
            }
            for (int i = 0; i < mediatorCount; i++) {
                mediators[i].copyFrom(model.mediators[i]);
            }
            for (int i = 0; i < caseCount; i++) {
                cases[i].copyFrom(model.cases[i]);
            }
        }
    }

    /** Looks for THE PLAN; its rows are made once and used by every search again. */
    private static final class Planner {
        int leastWait;
        private int count;
        private int seatsADay;
        private final int[] numbers = new int[MOST_PLANNED];
        private final int[] weights = new int[MOST_PLANNED];
        private final int[] pairBits = new int[MOST_PLANNED];
        private final int[] heaviestFirst = new int[MOST_PLANNED];
        private final int[] seats = new int[MOST_PLANNED];
        private final int[] bestSeats = new int[MOST_PLANNED];
        private final int[] busyBits = new int[DAYS];
        private final int[] sittings = new int[DAYS];

        void findPlan(House house, int rooms) {
            seatsADay = Math.min(rooms, house.mediatorCount / 2);
            gather(house);
            sortByWeight();
            // One above what the plan without any sitting waits, so that one plan is always found.
            leastWait = 1;
            for (int i = 0; i < count; i++) {
                leastWait += UNSEATED_WAIT * weights[i];
            }
            for (int day = 0; day < DAYS; day++) {
                busyBits[day] = 0;
                sittings[day] = 0;
            }
            search(0, 0);
        }

        /** What the plan found last gives a CASE. */
        int seatOf(int number) {
            for (int i = 0; i < count; i++) {
                if (numbers[i] == number && bestSeats[i] != UNSEATED) {
                    return bestSeats[i];
                }
            }
            return NONE;
        }

        private void gather(House house) {
            count = 0;
            for (int i = 0; i < house.caseCount && count < MOST_PLANNED; i++) {
                Case one = house.cases[i];
                if (one.state == IS_OPEN) {
                    numbers[count] = i;
                    weights[count] = one.weight;
                    pairBits[count] = fittingPairs(house, one);
                    count++;
                }
            }
        }

        private static int fittingPairs(House house, Case one) {
            int bits = 0;
            for (int pair = 0; pair < PAIRS; pair++) {
                if (house.hasPair(pair) && house.pairFits(pair, one)) {
                    bits |= 1 << pair;
                }
            }
            return bits;
        }

        private void sortByWeight() {
            for (int i = 0; i < count; i++) {
                int place = i;
                while (place > 0 && weights[heaviestFirst[place - 1]] < weights[i]) {
                    heaviestFirst[place] = heaviestFirst[place - 1];
                    place--;
                }
                heaviestFirst[place] = i;
            }
        }

        /**
         * Tries the seats of the CASE at this depth, the lesser ones first; since only a plan that
         * waits less displaces the best one, the first of several that wait least stays.
         */
        private void search(int depth, int waited) {
            if (waited + leastBehind(depth) >= leastWait) {
                return;
            }
            if (depth >= count) {
                leastWait = waited;
                System.arraycopy(seats, 0, bestSeats, 0, count);
                return;
            }
            for (int day = 0; day < DAYS; day++) {
                if (sittings[day] < seatsADay) {
                    searchDay(depth, waited + weights[depth] * day, day);
                }
            }
            seats[depth] = UNSEATED;
            search(depth + 1, waited + weights[depth] * UNSEATED_WAIT);
        }

        private void searchDay(int depth, int waited, int day) {
            for (int pair = 0; pair < PAIRS; pair++) {
                int sitting = 1 << LESSER_OF_PAIR[pair] | 1 << OTHER_OF_PAIR[pair];
                if (hasBit(pairBits[depth], pair) && (busyBits[day] & sitting) == 0) {
                    seats[depth] = PAIRS * day + pair;
                    busyBits[day] |= sitting;
                    sittings[day]++;
                    search(depth + 1, waited);
                    sittings[day]--;
                    busyBits[day] ^= sitting;
                }
            }
        }

        /**
         * No less than this is waited for the CASES from this depth on: the heaviest come first,
         * as if any free seat would do for a CASE that has a pair at all.
         */
        private int leastBehind(int depth) {
            int least = 0;
            int day = 0;
            int taken = sittings[0];
            for (int i = 0; i < count; i++) {
                int one = heaviestFirst[i];
                if (one >= depth) {
                    while (day < DAYS && taken >= seatsADay) {
                        day++;
                        taken = day < DAYS ? sittings[day] : 0;
                    }
                    boolean seated = day < DAYS && pairBits[one] != 0;
                    least += weights[one] * (seated ? day : UNSEATED_WAIT);
                    taken += seated ? 1 : 0;
                }
            }
            return least;
        }
    }

    /** Looks for THE TABLE of a SIDE; its rows are made once and used again. */
    private static final class Table {
        private int count;
        private final int[] musts = new int[MOST_TERMS];
        private final int[] hourBits = new int[MOST_TERMS];

        /** Takes in the MUSTS of a SIDE among the first TERMS, with the hours left to each. */
        void read(Case one, int side, int termCount) {
            count = 0;
            for (int i = 0; i < termCount; i++) {
                Term term = one.terms[i];
                if (term.side == side && term.must) {
                    musts[count] = i;
                    hourBits[count] = allowedHours(one, term, termCount);
                    count++;
                }
            }
        }

        private static int allowedHours(Case one, Term must, int termCount) {
            int bits = must.hourBits();
            for (int i = 0; i < termCount; i++) {
                Term other = one.terms[i];
                if (other.side == must.side && !other.must && other.act == must.act) {
                    bits &= ~other.hourBits();
                }
            }
            return bits;
        }

        /** There is a table if no group of MUSTS has fewer hours than members (Hall's theorem). */
        boolean stands() {
            for (int group = 1; group < 1 << count; group++) {
                int bits = 0;
                for (int i = 0; i < count; i++) {
                    if (hasBit(group, i)) {
                        bits |= hourBits[i];
                    }
                }
                if (Integer.bitCount(bits) < Integer.bitCount(group)) {
                    return false;
                }
            }
            return true;
        }

        /** Where a table stands: pins the MUSTS to their least hours, one by one, up to this one. */
        int hourOf(int term) {
            for (int i = 0; i < count; i++) {
                int hour = pinLeastHour(i);
                if (musts[i] == term) {
                    return hour;
                }
            }
            return NONE;
        }

        private int pinLeastHour(int at) {
            int allowed = hourBits[at];
            for (int hour = 0; hour < HOURS; hour++) {
                if (hasBit(allowed, hour)) {
                    hourBits[at] = 1 << hour;
                    if (stands()) {
                        return hour;
                    }
                }
            }
            hourBits[at] = allowed;
            return NONE;
        }
    }
}
