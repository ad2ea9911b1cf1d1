/** Promises 10 to 12: the box, and what is learnt of it. */
public final class BoxTest {
    public static void main(String[] args) {
        offer();
        offerRounds();
        put();
        learns();
        learnsEveryPair();
        Script.end();
    }

    private static Script started(String title) {
        return new Script(title).play("party(0, 0) = 0", "party(1, 0) = 1", "open(0, 1) = 0");
    }

    private static void offer() {
        started("10 offer").play(
                "offer(1, 0, 0) = NUMBER", "offer(-1, 0, 0) = NUMBER", "offer(0, -1, 0) = NUMBER",
                "offer(0, 2, 0) = NUMBER", "offer(0, 0, -1) = NUMBER", "offer(0, 0, 101) = NUMBER",
                "offer(0, MIN, 0) = NUMBER", "offer(0, 0, MAX) = NUMBER", "put(0, 0) = 0",
                "offer(0, 0, 100) = 0", "offer(0, 0, 0) = TWICE", "offer(0, 0, 101) = NUMBER",
                "of(0, 2) = 0", "offer(0, 1, 99) = 2", "of(0, 2) = 0", "of(0, 4) = 1",
                "offer(0, 1, 100) = 0", "offer(0, 1, 100) = TWICE", "offer(0, 0, 100) = 1",
                "of(0, 2) = 1", "of(0, 3) = 100", "of(0, 4) = 2", "many(3) = 0", "many(4) = 1",
                "offer(0, 0, 1) = STATE", "offer(0, 1, 1) = STATE", "offer(0, 0, -1) = NUMBER");
        started("10 the rest away").play("offer(0, 1, 8) = 0", "offer(0, 0, 3) = 1", "of(0, 3) = 5");
        started("10 the least").play("offer(0, 0, 0) = 0", "offer(0, 1, 0) = 1", "of(0, 3) = 0");
        started("10 the widest").play("offer(0, 0, 0) = 0", "offer(0, 1, 100) = 1", "of(0, 3) = 50");
    }

    private static void offerRounds() {
        Script script = started("10 rounds");
        script.play("open(1, 0) = 1", "offer(1, 0, 9) = 0");
        for (int round = 0; round < 5; round++) {
            script.play("of(0, 4) = " + round, "offer(0, 0, 51) = 0", "offer(0, 1, 50) = 2");
        }
        script.play("of(0, 4) = 5", "of(0, 2) = 0", "offer(0, 0, 51) = FULL",
                "offer(0, 1, 100) = FULL", "offer(0, 1, 101) = NUMBER", "put(0, 0) = 0",
                "put(0, 1) = 0", "put(1, 0) = 1", "of(1, 4) = 0", "close(0) = 1",
                "offer(0, 0, 51) = STATE");
        Script last = started("10 met in the last round");
        for (int round = 0; round < 4; round++) {
            last.play("offer(0, 1, 0) = 0", "offer(0, 0, 1) = 2");
        }
        last.play("offer(0, 0, 40) = 0", "offer(0, 1, 41) = 1", "of(0, 4) = 5", "of(0, 3) = 40",
                "offer(0, 0, 1) = STATE", "learns(0, 0, 3, true) = 0", "learns(0, 0, 4, true) = 41");
    }

    private static void put() {
        started("11 put").play(
                "put(0, 0) = 0", "put(0, 1) = 0", "put(1, 0) = NUMBER", "put(-1, 0) = NUMBER",
                "put(0, -1) = NUMBER", "put(0, 2) = NUMBER", "put(MAX, MIN) = NUMBER",
                "offer(0, 1, 0) = 0", "put(0, 1) = 1", "put(0, 0) = 0",
                "offer(0, 0, 1) = 2", "put(0, 0) = 0", "put(0, 1) = 0",
                "offer(0, 0, 0) = 0", "put(0, 0) = 1", "put(0, 1) = 0", "close(0) = 1",
                "put(0, 0) = 1", "put(0, 1) = 0");
        // "else nothing is told, and the box is empty": where they meet the numbers stay in it.
        started("11 put where they met").play(
                "offer(0, 1, 9) = 0", "offer(0, 0, 1) = 1", "put(0, 0) = 1", "put(0, 1) = 1");
    }

    private static void learns() {
        started("12 learns").play(
                "learns(0, 0, 0, true) = NONE", "learns(0, 0, -1, true) = NONE",
                "learns(0, 0, MIN, true) = NONE", "learns(0, 0, MAX, false) = NONE",
                "learns(1, 0, 0, true) = NUMBER", "learns(-1, 0, 0, true) = NUMBER",
                "learns(0, -1, 0, true) = NUMBER", "learns(0, 2, 0, true) = NUMBER",
                "learns(0, 2, 9, true) = NUMBER",
                "offer(0, 0, 100) = 0", "learns(0, 1, 0, true) = NONE", "offer(0, 1, 0) = 2",
                "learns(0, 0, 0, false) = 0", "learns(0, 0, 0, true) = 99",
                "learns(0, 1, 0, false) = 1", "learns(0, 1, 0, true) = 100",
                "learns(0, 0, 1, false) = NONE", "offer(0, 0, 20) = 0", "offer(0, 1, 30) = 1",
                "learns(0, 0, 0, true) = 99", "learns(0, 1, 0, false) = 1",
                "learns(0, 0, 1, false) = 30", "learns(0, 0, 1, true) = 31",
                "learns(0, 1, 1, false) = 20", "learns(0, 1, 1, true) = 21",
                "learns(0, 0, 2, true) = NONE", "learns(0, 0, 5, true) = NONE");
        started("12 learns of a case that is closed").play(
                "offer(0, 0, 9) = 0", "offer(0, 1, 5) = 2", "close(0) = 1",
                "learns(0, 0, 0, true) = 8", "learns(0, 1, 0, false) = 6",
                "learns(0, 1, 0, true) = 100");
    }

    /** Every two numbers, against all the numbers that the other one may have been. */
    private static void learnsEveryPair() {
        for (int asked = 0; asked <= 100; asked++) {
            for (int given = 0; given <= 100; given++) {
                QuietStairs stairs = new QuietStairs();
                stairs.party(0, 0);
                stairs.party(1, 0);
                stairs.open(0, 1);
                stairs.offer(0, 0, asked);
                stairs.offer(0, 1, given);
                compare(stairs, 0, asked, given);
                compare(stairs, 1, asked, given);
            }
        }
    }

    private static void compare(QuietStairs stairs, int side, int asked, int given) {
        int least = -1;
        int greatest = -1;
        for (int v = 0; v <= 100; v++) {
            int a = side == 0 ? asked : v;
            int g = side == 0 ? v : given;
            boolean sameAnswer = a <= g == asked <= given;
            boolean sameSum = asked > given || (a + g) / 2 == (asked + given) / 2;
            if (sameAnswer && sameSum) {
                least = least < 0 ? v : least;
                greatest = v;
            }
        }
        String call = asked + " and " + given + ", learns(0, " + side + ", 0, ";
        Script.due("12 every pair", call + "false)", stairs.learns(0, side, 0, false), least);
        Script.due("12 every pair", call + "true)", stairs.learns(0, side, 0, true), greatest);
    }
}
