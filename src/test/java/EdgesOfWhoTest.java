/** Terms 1 and promises 1 to 9: a test for each sentence that names an edge. */
public final class EdgesOfWhoTest {
    public static void main(String[] args) {
        newObjectHasNobody();
        newObjectKeepsNothing();
        partiesEightAtMost();
        mediatorsFourAtMost();
        everyFloorCounts();
        everyTongueCounts();
        kinToNoneAtFirst();
        kinOfEachToEach();
        kinIsNewOrNot();
        casesSixAtMost();
        casesOfTheSameParties();
        sidesAskAndGive();
        openUntilSettledOrClosed();
        closeAtItsEdges();
        weightFirstLeastAndGreatest();
        weightInEveryState();
        marksSixAtMost();
        everyMarkIsThereEitherWay();
        marksInEveryState();
        aCaseAloneIsAQuarrel();
        joinedByOthersBetween();
        headIsTheLeast();
        marksWithinAQuarrel();
        ofEachWhat();
        Script.end();
    }

    private static Script house(String title, int parties, int cases) {
        Script script = new Script(title);
        for (int i = 0; i < parties; i++) {
            script.play("party(" + i + ", 0) = " + i);
        }
        for (int i = 0; i < cases; i++) {
            script.play("open(" + i % 2 + ", " + (1 - i % 2) + ") = " + i);
        }
        return script;
    }

    /** Promise 1: "No PARTIES, MEDIATORS, CASES". */
    private static void newObjectHasNobody() {
        Script script = new Script("1 nobody in a new object");
        for (int what = 0; what <= 10; what++) {
            script.play("many(" + what + ") = 0");
        }
        script.play("waits() = 0", "party(9, 2) = 0", "mediator(9, 7) = 0", "kin(0, 0, false) = 0",
                "party(9, 2) = 1", "open(1, 0) = 0", "many(0) = 2", "many(1) = 1", "many(2) = 1",
                "many(3) = 1", "many(6) = 1");
        new Script("1 one room in a new object").play("rooms(1) = 1");
        new Script("1 a second object is new too").play("many(0) = 0", "rooms(2) = 1", "back() = NONE");
    }

    /** Promise 1: "nothing is kept". */
    private static void newObjectKeepsNothing() {
        new Script("1 nothing is kept").play("back() = NONE", "back() = NONE", "party(0, 0) = 0",
                "back() = NONE", "many(0) = 1");
    }

    /** Terms 1: "PARTIES are numbered from 0 as they come, 8 at most". */
    private static void partiesEightAtMost() {
        Script script = new Script("2 eight parties");
        for (int i = 0; i < 8; i++) {
            script.play("many(0) = " + i, "party(" + (9 - i) + ", " + i % 3 + ") = " + i);
        }
        script.play("many(0) = 8", "party(0, 0) = FULL", "party(9, 2) = FULL", "many(0) = 8",
                "kin(0, 7, true) = NUMBER", "mediator(0, 1) = 0", "kin(0, 7, true) = 1",
                "kin(0, 8, true) = NUMBER", "party(0, 0) = FULL");
    }

    /** Terms 1: "MEDIATORS are numbered from 0 as they come, 4 at most". */
    private static void mediatorsFourAtMost() {
        Script script = new Script("3 four mediators");
        for (int i = 0; i < 4; i++) {
            script.play("many(1) = " + i, "mediator(" + 9 * (i % 2) + ", " + (1 + 2 * i) + ") = " + i);
        }
        script.play("many(1) = 4", "mediator(0, 1) = FULL", "mediator(9, 7) = FULL", "many(1) = 4",
                "party(0, 0) = 0", "kin(3, 0, true) = 1", "kin(4, 0, true) = NUMBER",
                "mediator(0, 1) = FULL");
    }

    /** Terms 1: "each of a FLOOR (0 to 9)": of either mediator against that of either party. */
    private static void everyFloorCounts() {
        for (int floor = 0; floor <= 9; floor++) {
            for (int near = 0; near <= 9; near++) {
                int other = (floor + 1) % 10 == near ? (floor + 2) % 10 : (floor + 1) % 10;
                int fits = floor == near ? 0 : 1;
                new Script("2 and 3 floors " + floor + " and " + near).play(
                        "party(" + floor + ", 0) = 0", "party(" + floor + ", 0) = 1",
                        "party(" + other + ", 0) = 2",
                        "mediator(" + near + ", 1) = 0",
                        "mediator(" + far(floor, other) + ", 1) = 1",
                        "mediator(" + near + ", 1) = 2",
                        "open(0, 1) = 0", "open(0, 2) = 1", "open(2, 0) = 2",
                        "maySit(0, 0) = " + fits, "maySit(0, 1) = " + fits, "maySit(0, 2) = " + fits,
                        "maySit(3, 0) = " + fits, "maySit(3, 1) = " + fits, "maySit(3, 2) = " + fits,
                        "maySit(1, 1) = " + fits);
            }
        }
    }

    private static int far(int floor, int other) {
        int far = 0;
        while (far == floor || far == other) {
            far++;
        }
        return far;
    }

    /** Terms 1: "bits 1 to 7: TONGUE t is 2 to the power of t": every two against every two. */
    private static void everyTongueCounts() {
        for (int asks = 0; asks <= 2; asks++) {
            for (int gives = 0; gives <= 2; gives++) {
                for (int lesser = 1; lesser <= 7; lesser++) {
                    Script script = new Script("2 and 3 tongues").play("party(0, " + asks + ") = 0",
                            "party(1, " + gives + ") = 1", "open(0, 1) = 0",
                            "mediator(9, " + lesser + ") = 0", "mediator(9, 1) = 1",
                            "mediator(9, 2) = 2", "mediator(9, 4) = 3");
                    for (int pair = 0; pair < 3; pair++) {
                        boolean first = (lesser >> asks) % 2 == 1 || pair == asks;
                        boolean second = (lesser >> gives) % 2 == 1 || pair == gives;
                        script.play("maySit(" + pair + ", 0) = " + (first && second ? 1 : 0));
                    }
                }
            }
        }
    }

    /** Terms 1: "KIN to some PARTIES (none at first)". */
    private static void kinToNoneAtFirst() {
        Script script = house("4 kin to none at first", 8, 0);
        for (int mediator = 0; mediator < 4; mediator++) {
            script.play("mediator(9, 7) = " + mediator);
            for (int party = 0; party < 8; party++) {
                script.play("kin(" + mediator + ", " + party + ", false) = 0");
            }
        }
        new Script("4 kin not to who comes later").play("party(0, 0) = 0", "mediator(9, 7) = 0",
                "kin(0, 0, true) = 1", "party(0, 0) = 1", "kin(0, 1, false) = 0", "mediator(9, 7) = 1",
                "kin(1, 0, false) = 0", "kin(0, 0, true) = 0");
    }

    /** Promise 4: each mediator and each party, the first and the last with them. */
    private static void kinOfEachToEach() {
        int[][] pairs = {{0, 1}, {0, 2}, {0, 3}, {1, 2}, {1, 3}, {2, 3}};
        for (int mediator = 0; mediator < 4; mediator++) {
            for (int party = 0; party < 8; party++) {
                Script script = house("4 kin of " + mediator + " to " + party, 8, 0).play(
                        "mediator(9, 7) = 0", "mediator(9, 7) = 1", "mediator(9, 7) = 2",
                        "mediator(9, 7) = 3", "open(0, 1) = 0", "open(2, 3) = 1", "open(4, 5) = 2",
                        "open(6, 7) = 3", "kin(" + mediator + ", " + party + ", true) = 1");
                for (int pair = 0; pair < 6; pair++) {
                    boolean sits = pairs[pair][0] == mediator || pairs[pair][1] == mediator;
                    for (int one = 0; one < 4; one++) {
                        boolean kin = sits && party / 2 == one;
                        script.play("maySit(" + pair + ", " + one + ") = " + (kin ? 0 : 1));
                    }
                }
            }
        }
    }

    /** Promise 4: "1 if that is new, else 0". */
    private static void kinIsNewOrNot() {
        new Script("4 new or not").play("party(0, 0) = 0", "party(1, 0) = 1", "mediator(9, 7) = 0",
                "mediator(8, 7) = 1", "kin(0, 0, false) = 0", "kin(0, 0, true) = 1", "kin(0, 0, true) = 0",
                "kin(0, 1, true) = 1", "kin(1, 0, true) = 1", "kin(0, 0, false) = 1",
                "kin(0, 0, false) = 0", "kin(0, 1, true) = 0", "kin(1, 0, true) = 0",
                "kin(0, 0, true) = 1");
    }

    /** Terms 1: "CASES are numbered from 0 as they come, 6 at most", in whatever state they are. */
    private static void casesSixAtMost() {
        Script script = house("5 six cases", 2, 0);
        for (int i = 0; i < 6; i++) {
            script.play("many(2) = " + i, "of(" + i + ", 2) = NUMBER", "open(0, 1) = " + i,
                    "of(" + i + ", 2) = 0");
        }
        script.play("many(2) = 6", "open(0, 1) = FULL", "close(0) = 1", "open(0, 1) = FULL",
                "offer(1, 0, 0) = 0", "offer(1, 1, 0) = 1", "open(1, 0) = FULL", "many(2) = 6",
                "of(6, 0) = NUMBER");
    }

    /** Promise 5: "or they are the same" speaks of the parties of one case alone. */
    private static void casesOfTheSameParties() {
        house("5 the same two again", 2, 0).play("open(0, 1) = 0", "open(0, 1) = 1", "open(1, 0) = 2",
                "open(0, 0) = NUMBER", "open(1, 1) = NUMBER", "many(2) = 3", "of(2, 0) = 1",
                "of(2, 1) = 0");
        house("5 the least and the last party", 8, 0).play("open(0, 7) = 0", "open(7, 0) = 1",
                "open(7, 7) = NUMBER", "open(0, 0) = NUMBER", "of(0, 1) = 7", "of(1, 0) = 7");
        house("5 a single party", 1, 0).play("open(0, 0) = NUMBER", "many(2) = 0");
    }

    /** Terms 1: "SIDE 0 asks, SIDE 1 gives". */
    private static void sidesAskAndGive() {
        house("5 asks and gives", 8, 0).play("open(6, 2) = 0", "of(0, 0) = 6", "of(0, 1) = 2",
                "offer(0, 0, 9) = 0", "offer(0, 1, 8) = 2", "offer(0, 0, 8) = 0", "offer(0, 1, 9) = 1");
    }

    /** Terms 1: "a CASE is OPEN until it is SETTLED or CLOSED". */
    private static void openUntilSettledOrClosed() {
        house("6 open until", 2, 2).play("of(0, 2) = 0", "of(1, 2) = 0", "offer(0, 0, 5) = 0",
                "of(0, 2) = 0", "offer(0, 1, 4) = 2", "of(0, 2) = 0", "offer(0, 1, 5) = 0",
                "of(0, 2) = 0", "offer(0, 0, 5) = 1", "of(0, 2) = 1", "close(0) = STATE", "of(0, 2) = 1",
                "close(1) = 1", "of(1, 2) = 2", "offer(1, 0, 5) = STATE", "close(1) = STATE",
                "of(1, 2) = 2", "many(3) = 0", "many(4) = 1");
    }

    /** Promise 6: the first case, the last one, one with a number in the box or no round left. */
    private static void closeAtItsEdges() {
        Script script = house("6 close", 2, 6).play("close(6) = NUMBER", "close(-1) = NUMBER",
                "close(5) = 1", "close(5) = STATE", "close(0) = 1", "close(0) = STATE",
                "offer(3, 1, 100) = 0", "close(3) = 1", "of(3, 2) = 2", "many(3) = 3");
        for (int round = 0; round < 5; round++) {
            script.play("offer(4, 0, 1) = 0", "offer(4, 1, 0) = 2");
        }
        script.play("close(4) = 1", "of(4, 2) = 2", "of(4, 4) = 5", "many(3) = 2", "many(2) = 6");
    }

    /** Terms 3: "WEIGHT (1 to 9; 1 at first)"; promise 7: "what it was". */
    private static void weightFirstLeastAndGreatest() {
        Script script = house("7 weight", 2, 6);
        for (int one = 0; one < 6; one++) {
            script.play("of(" + one + ", 7) = 1", "weight(" + one + ", " + (one + 4) + ") = 1");
        }
        for (int one = 0; one < 6; one++) {
            script.play("weight(" + one + ", 1) = " + (one + 4));
        }
        for (int v = 1; v <= 9; v++) {
            script.play("weight(5, " + v + ") = " + Math.max(1, v - 1), "of(5, 7) = " + v);
        }
        script.play("weight(5, 0) = NUMBER", "weight(5, 10) = NUMBER", "of(5, 7) = 9", "weight(5, 9) = 9");
    }

    /** Promise 7 names no STATE. */
    private static void weightInEveryState() {
        house("7 weight in every state", 2, 2).play("close(0) = 1", "weight(0, 9) = 1", "of(0, 7) = 9",
                "offer(1, 0, 1) = 0", "offer(1, 1, 1) = 1", "weight(1, 2) = 1", "of(1, 7) = 2",
                "waits() = 0");
    }

    /** Terms 1: "A MARK between two CASES joins them (6 at most)". */
    private static void marksSixAtMost() {
        house("8 six marks", 2, 6).play("many(5) = 0", "mark(0, 1) = 1", "many(5) = 1", "mark(2, 0) = 2",
                "mark(0, 3) = 3", "mark(4, 0) = 4", "mark(1, 2) = 5", "many(5) = 5", "of(5, 6) = 1",
                "mark(1, 3) = 6", "many(5) = 6", "mark(5, 0) = FULL", "mark(0, 5) = FULL", "of(5, 6) = 1",
                "of(0, 6) = 5", "many(5) = 6", "mark(3, 1) = TWICE", "many(6) = 2");
    }

    /** Promise 8: "TWICE: it is there (either way round)". */
    private static void everyMarkIsThereEitherWay() {
        for (int one = 0; one < 6; one++) {
            for (int other = 0; other < 6; other++) {
                if (one != other) {
                    house("8 twice", 2, 6).play("mark(" + one + ", " + other + ") = 1",
                            "mark(" + other + ", " + one + ") = TWICE",
                            "mark(" + one + ", " + other + ") = TWICE", "many(5) = 1", "many(6) = 5",
                            "of(" + one + ", 6) = 2", "of(" + other + ", 6) = 2",
                            "of(" + one + ", 5) = " + Math.min(one, other),
                            "of(" + other + ", 5) = " + Math.min(one, other));
                }
            }
        }
    }

    /** Promise 8 names no STATE. */
    private static void marksInEveryState() {
        house("8 marks in every state", 2, 3).play("close(0) = 1", "offer(1, 0, 1) = 0",
                "offer(1, 1, 1) = 1", "mark(0, 1) = 1", "mark(2, 0) = 2", "close(2) = 1",
                "mark(1, 2) = 3", "of(2, 5) = 0", "of(2, 6) = 3", "many(6) = 1");
    }

    /** Terms 1: "CASES that are joined .. are one QUARREL": with no mark, each is its own. */
    private static void aCaseAloneIsAQuarrel() {
        Script script = house("9 alone", 2, 0).play("many(6) = 0");
        for (int i = 0; i < 6; i++) {
            script.play("open(0, 1) = " + i, "of(" + i + ", 5) = " + i, "of(" + i + ", 6) = 1",
                    "many(6) = " + (i + 1));
        }
        script.play("close(3) = 1", "many(6) = 6");
    }

    /** Terms 1: "also by others between", in the order that needs the most steps, and backwards. */
    private static void joinedByOthersBetween() {
        int[][] chains = {{0, 1, 2, 3, 4, 5}, {5, 4, 3, 2, 1, 0}, {0, 5, 1, 4, 2, 3}, {3, 0, 5, 2, 4, 1}};
        for (int[] chain : chains) {
            Script script = house("9 a chain", 2, 6);
            for (int i = 0; i < 5; i++) {
                script.play("mark(" + chain[i] + ", " + chain[i + 1] + ") = " + (i + 1),
                        "of(" + chain[0] + ", 6) = " + (i + 2), "of(" + chain[i + 1] + ", 6) = " + (i + 2),
                        "many(6) = " + (5 - i));
            }
            for (int one = 0; one < 6; one++) {
                script.play("of(" + one + ", 5) = 0", "of(" + one + ", 6) = 6");
            }
        }
    }

    /** Terms 1: "its HEAD is the least of them". */
    private static void headIsTheLeast() {
        house("9 head", 2, 6).play("mark(5, 3) = 1", "of(5, 5) = 3", "of(3, 5) = 3", "mark(5, 4) = 2",
                "of(4, 5) = 3", "mark(4, 1) = 3", "of(3, 5) = 1", "of(4, 5) = 1", "of(5, 5) = 1",
                "of(1, 5) = 1", "of(0, 5) = 0", "of(2, 5) = 2", "of(5, 6) = 4", "many(6) = 3",
                "mark(0, 2) = 4", "many(6) = 2", "of(2, 5) = 0", "of(2, 6) = 2", "mark(2, 3) = 5",
                "of(5, 5) = 0", "of(5, 6) = 6", "many(6) = 1");
        house("9 two quarrels of three", 2, 6).play("mark(0, 2) = 1", "mark(2, 4) = 2", "mark(4, 0) = 3",
                "mark(5, 3) = 4", "mark(3, 1) = 5", "mark(1, 5) = 6", "many(6) = 2", "of(4, 5) = 0",
                "of(5, 5) = 1", "of(4, 6) = 3", "of(5, 6) = 3");
    }

    /** A mark between cases that are joined already counts as a mark and joins nothing new. */
    private static void marksWithinAQuarrel() {
        house("9 marks within", 2, 4).play("mark(0, 1) = 1", "mark(1, 2) = 2", "many(6) = 2",
                "mark(0, 2) = 3", "many(5) = 3", "many(6) = 2", "of(0, 6) = 3", "of(3, 6) = 1");
    }

    /** Promise 9: each what of a new case, of a settled one and of a closed one. */
    private static void ofEachWhat() {
        house("9 of a new case", 3, 0).play("open(2, 1) = 0", "of(0, 0) = 2", "of(0, 1) = 1",
                "of(0, 2) = 0", "of(0, 3) = NONE", "of(0, 4) = 0", "of(0, 5) = 0", "of(0, 6) = 1",
                "of(0, 7) = 1", "of(0, 8) = NUMBER", "of(0, -1) = NUMBER");
        house("9 of a settled case", 3, 0).play("open(2, 1) = 0", "offer(0, 0, 0) = 0",
                "offer(0, 1, 1) = 1", "of(0, 0) = 2", "of(0, 1) = 1", "of(0, 2) = 1", "of(0, 3) = 0",
                "of(0, 4) = 1", "of(0, 5) = 0", "of(0, 6) = 1", "of(0, 7) = 1", "of(0, 8) = NUMBER");
        house("9 of a closed case", 3, 0).play("open(2, 1) = 0", "offer(0, 0, 1) = 0",
                "offer(0, 1, 0) = 2", "close(0) = 1", "of(0, 0) = 2", "of(0, 1) = 1", "of(0, 2) = 2",
                "of(0, 3) = NONE", "of(0, 4) = 1", "of(0, 5) = 0", "of(0, 6) = 1", "of(0, 7) = 1",
                "of(0, 8) = NUMBER");
    }
}
