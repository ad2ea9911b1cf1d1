/** Terms 2 and promises 10 to 12: a test for each sentence that names an edge. */
public final class EdgesOfTheBoxTest {
    public static void main(String[] args) {
        eachSidePutsOne();
        leastAndGreatestNumbers();
        overWithTheSecond();
        meetIfNotBelow();
        halfTheSumTheRestAway();
        elseTheBoxIsEmpty();
        theBoxWhereTheyMet();
        fiveRoundsAtMost();
        meetInTheFifth();
        casesHaveTheirOwnBoxes();
        putAtItsEdges();
        theBoxOfAClosedCase();
        onlyRoundsThatAreOver();
        learnsWhereTheyDidNotMeet();
        learnsWhereTheyMet();
        learnsOfEachRoundByItself();
        learnsAfterClosing();
        Script.end();
    }

    private static Script house(String title) {
        return new Script(title).play("party(0, 0) = 0", "party(1, 0) = 1", "open(0, 1) = 0",
                "open(1, 0) = 1");
    }

    /** Plays one round of case 0 and asks what each side learns of it. */
    private static void learnt(int asked, int given, String ofGiven, String ofAsked) {
        String[] given2 = ofGiven.split(" to ");
        String[] asked2 = ofAsked.split(" to ");
        house("12 learns of " + asked + " and " + given).play("offer(0, 0, " + asked + ") = 0",
                "offer(0, 1, " + given + ") = " + (given >= asked ? 1 : 2),
                "learns(0, 0, 0, false) = " + given2[0], "learns(0, 0, 0, true) = " + given2[1],
                "learns(0, 1, 0, false) = " + asked2[0], "learns(0, 1, 0, true) = " + asked2[1]);
    }

    /** Terms 2: "each SIDE puts a number .. into the box"; promise 10: "0 the other one's isn't there". */
    private static void eachSidePutsOne() {
        house("10 side 0 first").play("offer(0, 0, 5) = 0", "put(0, 0) = 1", "put(0, 1) = 0",
                "offer(0, 0, 6) = TWICE", "offer(0, 0, 5) = TWICE", "put(0, 1) = 0", "of(0, 4) = 0",
                "offer(0, 1, 6) = 1", "of(0, 3) = 5");
        house("10 side 1 first").play("offer(0, 1, 5) = 0", "put(0, 0) = 0", "put(0, 1) = 1",
                "offer(0, 1, 9) = TWICE", "of(0, 4) = 0", "offer(0, 0, 6) = 2", "of(0, 4) = 1");
    }

    /** Terms 2: "a number (0 to 100)". */
    private static void leastAndGreatestNumbers() {
        house("10 0 and 0").play("offer(0, 0, 0) = 0", "put(0, 0) = 1", "offer(0, 0, 0) = TWICE",
                "offer(0, 1, 0) = 1", "of(0, 3) = 0");
        house("10 100 and 100").play("offer(0, 1, 100) = 0", "offer(0, 0, 100) = 1", "of(0, 3) = 100");
        house("10 100 and 0").play("offer(0, 0, 100) = 0", "offer(0, 1, 0) = 2", "of(0, 3) = NONE");
        house("10 0 and 100").play("offer(0, 0, 0) = 0", "offer(0, 1, 100) = 1", "of(0, 3) = 50");
        house("10 outside").play("offer(0, 0, -1) = NUMBER", "offer(0, 0, 101) = NUMBER",
                "offer(0, 1, MIN) = NUMBER", "offer(0, 1, MAX) = NUMBER", "put(0, 0) = 0", "put(0, 1) = 0");
    }

    /** Terms 2: "With the second one the ROUND is over". */
    private static void overWithTheSecond() {
        house("10 over with the second").play("of(0, 4) = 0", "offer(0, 0, 9) = 0", "of(0, 4) = 0",
                "learns(0, 0, 0, true) = NONE", "offer(0, 1, 8) = 2", "of(0, 4) = 1",
                "learns(0, 0, 0, true) = 8", "offer(0, 1, 8) = 0", "of(0, 4) = 1", "offer(0, 0, 8) = 1",
                "of(0, 4) = 2");
    }

    /** Terms 2: "they MEET if the one of SIDE 1 is not below that of SIDE 0": the same, and one below. */
    private static void meetIfNotBelow() {
        for (int v = 0; v <= 100; v++) {
            house("10 the same").play("offer(0, 0, " + v + ") = 0", "offer(0, 1, " + v + ") = 1",
                    "of(0, 2) = 1", "of(0, 3) = " + v, "many(4) = 1", "many(3) = 1");
            if (v > 0) {
                house("10 one below").play("offer(0, 0, " + v + ") = 0",
                        "offer(0, 1, " + (v - 1) + ") = 2", "of(0, 2) = 0", "of(0, 3) = NONE", "many(4) = 0");
                house("10 one above").play("offer(0, 1, " + v + ") = 0",
                        "offer(0, 0, " + (v - 1) + ") = 1", "of(0, 2) = 1", "of(0, 3) = " + (v - 1));
            }
        }
    }

    /** Terms 2: "SETTLED at half their sum (the rest away)". */
    private static void halfTheSumTheRestAway() {
        int[][] rows = {{0, 0, 0}, {0, 1, 0}, {0, 2, 1}, {1, 1, 1}, {1, 2, 1}, {0, 99, 49}, {0, 100, 50},
            {1, 100, 50}, {2, 100, 51}, {98, 99, 98}, {99, 100, 99}, {100, 100, 100}};
        for (int[] row : rows) {
            house("10 half the sum").play("offer(0, 0, " + row[0] + ") = 0",
                    "offer(0, 1, " + row[1] + ") = 1", "of(0, 3) = " + row[2]);
        }
    }

    /** Terms 2: "else nothing is told, and the box is empty". */
    private static void elseTheBoxIsEmpty() {
        house("11 the box is empty").play("offer(0, 0, 9) = 0", "offer(0, 1, 8) = 2", "put(0, 0) = 0",
                "put(0, 1) = 0", "of(0, 3) = NONE", "of(0, 2) = 0", "offer(0, 1, 8) = 0",
                "put(0, 1) = 1", "put(0, 0) = 0", "offer(0, 0, 9) = 2", "put(0, 1) = 0", "of(0, 4) = 2");
    }

    /** Terms 2: the box is empty in the "else" alone; where they meet the numbers stay in it. */
    private static void theBoxWhereTheyMet() {
        house("11 the box where they met").play("offer(0, 0, 9) = 0", "offer(0, 1, 9) = 1",
                "put(0, 0) = 1", "put(0, 1) = 1", "offer(0, 0, 9) = STATE", "offer(0, 1, 9) = STATE");
    }

    /** Terms 2: "ROUND of an OPEN CASE (5 at most)"; promise 10: "FULL: 5 ROUNDS are over". */
    private static void fiveRoundsAtMost() {
        Script script = house("10 five rounds");
        for (int round = 0; round < 5; round++) {
            int first = round % 2;
            script.play("of(0, 4) = " + round, "offer(0, " + first + ", 50) = 0",
                    "offer(0, " + (1 - first) + ", " + (first == 0 ? 49 : 51) + ") = 2");
        }
        script.play("of(0, 4) = 5", "of(0, 2) = 0", "offer(0, 0, 0) = FULL", "offer(0, 1, 100) = FULL",
                "put(0, 0) = 0", "put(0, 1) = 0", "of(0, 4) = 5", "many(3) = 2", "offer(1, 0, 0) = 0",
                "offer(1, 1, 0) = 1", "offer(0, 0, 0) = FULL", "term(0, 0, true, 0, 0, 0) = STATE",
                "close(0) = 1", "offer(0, 0, 0) = STATE");
    }

    private static void meetInTheFifth() {
        Script script = house("10 they meet in the fifth");
        for (int round = 0; round < 4; round++) {
            script.play("offer(0, 0, 100) = 0", "offer(0, 1, 99) = 2");
        }
        script.play("of(0, 4) = 4", "offer(0, 0, 100) = 0", "of(0, 4) = 4", "offer(0, 1, 100) = 1",
                "of(0, 4) = 5", "of(0, 2) = 1", "of(0, 3) = 100", "learns(0, 0, 4, false) = 100",
                "learns(0, 0, 3, true) = 99", "learns(0, 0, 5, true) = NONE", "offer(0, 0, 1) = STATE");
    }

    private static void casesHaveTheirOwnBoxes() {
        Script script = house("10 boxes of six").play("open(0, 1) = 2", "open(0, 1) = 3",
                "open(0, 1) = 4", "open(0, 1) = 5");
        for (int one = 0; one < 6; one++) {
            script.play("put(" + one + ", 0) = 0", "offer(" + one + ", 0, " + (10 + one) + ") = 0",
                    "put(" + one + ", 0) = 1", "put(" + one + ", 1) = 0");
        }
        for (int one = 5; one >= 0; one--) {
            script.play("offer(" + one + ", 1, 13) = " + (one <= 3 ? 1 : 2),
                    "put(" + one + ", 0) = " + (one <= 3 ? 1 : 0), "of(" + one + ", 4) = 1",
                    "of(" + one + ", 3) = " + (one <= 3 ? (23 + one) / 2 : -5));
        }
        script.play("many(3) = 2", "many(4) = 4");
    }

    /** Promise 11: "(1, 0)", and what isn't there. */
    private static void putAtItsEdges() {
        house("11 put").play("put(0, 0) = 0", "put(0, 1) = 0", "put(1, 0) = 0", "put(2, 0) = NUMBER",
                "put(-1, 0) = NUMBER", "put(0, 2) = NUMBER", "put(0, -1) = NUMBER", "offer(0, 1, 0) = 0",
                "put(0, 1) = 1", "put(1, 1) = 0", "offer(0, 0, 101) = NUMBER", "put(0, 0) = 0");
    }

    /** No sentence takes a number out of the box when its case is closed. */
    private static void theBoxOfAClosedCase() {
        house("11 the box of a closed case").play("offer(0, 1, 3) = 0", "close(0) = 1", "put(0, 1) = 1",
                "put(0, 0) = 0", "offer(0, 0, 3) = STATE", "put(0, 0) = 0", "of(0, 4) = 0");
    }

    /** Promise 12: "NONE: no such ROUND is over". */
    private static void onlyRoundsThatAreOver() {
        Script script = house("12 rounds that are over");
        for (int over = 0; over <= 5; over++) {
            for (int round = -1; round <= 5; round++) {
                boolean is = round >= 0 && round < over;
                script.play("learns(0, 0, " + round + ", false) = " + (is ? "0" : "NONE"),
                        "learns(0, 0, " + round + ", true) = " + (is ? 20 + round : "NONE"),
                        "learns(0, 1, " + round + ", false) = " + (is ? 11 + round : "NONE"),
                        "learns(0, 1, " + round + ", true) = " + (is ? "100" : "NONE"));
            }
            if (over < 5) {
                script.play("offer(0, 0, " + (21 + over) + ") = 0",
                        "learns(0, 0, " + over + ", true) = NONE",
                        "learns(0, 1, " + over + ", true) = NONE",
                        "offer(0, 1, " + (10 + over) + ") = 2");
            }
        }
    }

    /** Terms 2: "the least and the greatest number .., by whether they met": they did not. */
    private static void learnsWhereTheyDidNotMeet() {
        learnt(1, 0, "0 to 0", "1 to 100");
        learnt(100, 99, "0 to 99", "100 to 100");
        learnt(100, 0, "0 to 99", "1 to 100");
        learnt(51, 50, "0 to 50", "51 to 100");
        learnt(60, 40, "0 to 59", "41 to 100");
    }

    /** ".. and the sum at which it is SETTLED": two numbers may be, one at the ends. */
    private static void learnsWhereTheyMet() {
        learnt(0, 0, "0 to 1", "0 to 0");
        learnt(0, 1, "0 to 1", "0 to 0");
        learnt(1, 1, "1 to 2", "1 to 1");
        learnt(1, 2, "1 to 2", "0 to 1");
        learnt(0, 99, "98 to 99", "0 to 0");
        learnt(0, 100, "100 to 100", "0 to 1");
        learnt(1, 100, "99 to 100", "0 to 1");
        learnt(1, 99, "99 to 100", "1 to 2");
        learnt(99, 99, "99 to 100", "99 to 99");
        learnt(99, 100, "99 to 100", "98 to 99");
        learnt(100, 100, "100 to 100", "100 to 100");
        learnt(20, 30, "30 to 31", "20 to 21");
        learnt(20, 31, "30 to 31", "19 to 20");
    }

    /** A round that did not meet tells no more when a later one meets. */
    private static void learnsOfEachRoundByItself() {
        house("12 each round by itself").play("offer(0, 0, 70) = 0", "offer(0, 1, 10) = 2",
                "offer(0, 0, 50) = 0", "offer(0, 1, 30) = 2", "offer(0, 0, 40) = 0", "offer(0, 1, 40) = 1",
                "learns(0, 0, 0, false) = 0", "learns(0, 0, 0, true) = 69", "learns(0, 1, 0, false) = 11",
                "learns(0, 1, 0, true) = 100", "learns(0, 0, 1, false) = 0", "learns(0, 0, 1, true) = 49",
                "learns(0, 1, 1, false) = 31", "learns(0, 1, 1, true) = 100", "learns(0, 0, 2, false) = 40",
                "learns(0, 0, 2, true) = 41", "learns(0, 1, 2, false) = 40", "learns(0, 1, 2, true) = 40",
                "learns(1, 0, 0, true) = NONE");
    }

    private static void learnsAfterClosing() {
        house("12 after closing").play("offer(0, 0, 70) = 0", "offer(0, 1, 10) = 2",
                "offer(0, 1, 80) = 0", "close(0) = 1", "learns(0, 0, 0, true) = 69",
                "learns(0, 1, 0, false) = 11", "learns(0, 0, 1, true) = NONE",
                "learns(0, 1, 1, false) = NONE");
    }
}
