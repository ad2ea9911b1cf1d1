/** Terms 3 and promises 13 to 16: a test for each sentence that names an edge. */
public final class EdgesOfSittingsTest {
    public static void main(String[] args) {
        pairsOfMediatorsThatThereAre();
        maySitInEveryState();
        eachTongueOfOneOfThem();
        neitherIsKinOrOfTheFloor();
        withoutAPairNothing();
        nobodySitsWhoIsNotThere();
        daysZeroToTwo();
        leastAndGreatestSeat();
        oneRoomAtFirst();
        twoRooms();
        nobodySitsTwiceOnADay();
        weightTimesTheDay();
        nothingTakesNoRoom();
        timesFourWithNothing();
        ofSeveralTheLesser();
        nothingStandsBehindAll();
        makingWay();
        fourWithTheLeastNumbers();
        theFourThoughTheyCannotSit();
        openCasesAlone();
        waitsLeastAndMost();
        askingChangesNothing();
        Script.end();
    }

    /** Parties 0 to 3 of tongue 0 on floors 0 to 3, and mediators of that tongue on floor 9. */
    private static Script house(String title, int mediators, int cases) {
        Script script = new Script(title).play("party(0, 0) = 0", "party(1, 0) = 1", "party(2, 0) = 2",
                "party(3, 0) = 3");
        for (int i = 0; i < mediators; i++) {
            script.play("mediator(9, 1) = " + i);
        }
        for (int i = 0; i < cases; i++) {
            script.play("open(" + i % 4 + ", " + (i + 1) % 4 + ") = " + i);
        }
        return script;
    }

    /** Promise 13: "there is no such PAIR (of MEDIATORS that there are), CASE". */
    private static void pairsOfMediatorsThatThereAre() {
        house("13 no mediator", 0, 1).play("maySit(0, 0) = NUMBER", "maySit(5, 0) = NUMBER");
        house("13 one mediator", 1, 1).play("maySit(0, 0) = NUMBER", "maySit(1, 0) = NUMBER");
        house("13 two mediators", 2, 1).play("maySit(0, 0) = 1", "maySit(1, 0) = NUMBER",
                "maySit(2, 0) = NUMBER", "maySit(3, 0) = NUMBER", "maySit(4, 0) = NUMBER",
                "maySit(5, 0) = NUMBER");
        house("13 three mediators", 3, 1).play("maySit(0, 0) = 1", "maySit(1, 0) = 1",
                "maySit(2, 0) = NUMBER", "maySit(3, 0) = 1", "maySit(4, 0) = NUMBER",
                "maySit(5, 0) = NUMBER");
        house("13 four mediators", 4, 6).play("maySit(-1, 0) = NUMBER", "maySit(0, 0) = 1",
                "maySit(5, 5) = 1", "maySit(6, 0) = NUMBER", "maySit(0, 6) = NUMBER",
                "maySit(0, -1) = NUMBER", "maySit(MIN, 0) = NUMBER", "maySit(MAX, 0) = NUMBER",
                "maySit(0, MIN) = NUMBER", "maySit(0, MAX) = NUMBER");
        house("13 no case", 4, 0).play("maySit(0, 0) = NUMBER");
    }

    /** Promise 13 names no STATE. */
    private static void maySitInEveryState() {
        house("13 in every state", 2, 3).play("close(0) = 1", "maySit(0, 0) = 1", "offer(1, 0, 1) = 0",
                "offer(1, 1, 1) = 1", "maySit(0, 1) = 1", "kin(0, 1, true) = 1", "maySit(0, 0) = 0",
                "maySit(0, 1) = 0", "maySit(0, 2) = 1");
    }

    /** Terms 3: "each TONGUE of its PARTIES is one of a MEDIATOR of the PAIR". */
    private static void eachTongueOfOneOfThem() {
        String[] house = {"party(0, 0) = 0", "party(1, 1) = 1", "party(2, 2) = 2", "open(0, 1) = 0",
            "open(1, 0) = 1"};
        new Script("13 one each").play(house).play("mediator(9, 1) = 0", "mediator(9, 2) = 1",
                "maySit(0, 0) = 1", "maySit(0, 1) = 1");
        new Script("13 both of one").play(house).play("mediator(9, 4) = 0", "mediator(9, 3) = 1",
                "maySit(0, 0) = 1", "maySit(0, 1) = 1");
        new Script("13 one is missing").play(house).play("mediator(9, 1) = 0", "mediator(9, 5) = 1",
                "maySit(0, 0) = 0", "maySit(0, 1) = 0");
        new Script("13 the other is missing").play(house).play("mediator(9, 6) = 0", "mediator(9, 4) = 1",
                "maySit(0, 0) = 0", "maySit(0, 1) = 0");
        new Script("13 both are missing").play(house).play("mediator(9, 4) = 0", "mediator(9, 4) = 1",
                "maySit(0, 0) = 0");
    }

    /** Terms 3: "neither is KIN to one of these PARTIES, or of the FLOOR of one". */
    private static void neitherIsKinOrOfTheFloor() {
        for (int mediator = 0; mediator < 2; mediator++) {
            for (int party = 0; party < 4; party++) {
                int fits = party < 2 ? 0 : 1;
                house("13 kin", 2, 1).play("maySit(0, 0) = 1",
                        "kin(" + mediator + ", " + party + ", true) = 1", "maySit(0, 0) = " + fits,
                        "plan(0) = " + (fits == 1 ? "0" : "NONE"), "waits() = " + 4 * (1 - fits),
                        "kin(" + mediator + ", " + party + ", false) = 1", "maySit(0, 0) = 1");
                house("13 floor", 0, 1).play("mediator(" + (mediator == 0 ? party : 9) + ", 1) = 0",
                        "mediator(" + (mediator == 1 ? party : 9) + ", 1) = 1", "maySit(0, 0) = " + fits,
                        "plan(0) = " + (fits == 1 ? "0" : "NONE"));
            }
        }
    }

    /** Promise 15: "NONE: nothing". */
    private static void withoutAPairNothing() {
        for (int mediators = 0; mediators < 2; mediators++) {
            house("15 without a pair", mediators, 2).play("plan(0) = NONE", "plan(1) = NONE",
                    "plan(2) = NUMBER", "waits() = 8", "rooms(2) = 1", "plan(0) = NONE", "waits() = 8");
        }
        house("15 nothing for one of two", 2, 2).play("kin(0, 0, true) = 1", "plan(0) = NONE",
                "plan(1) = 0", "waits() = 4");
    }

    /** A pair is of mediators that there are, also in THE PLAN: not of one to come, or gone again. */
    private static void nobodySitsWhoIsNotThere() {
        String[] oneMaySit = {"party(3, 0) = 0", "party(4, 0) = 1", "open(0, 1) = 0", "mediator(9, 7) = 0",
            "mediator(9, 7) = 1", "mediator(9, 7) = 2", "kin(1, 0, true) = 1", "kin(2, 1, true) = 1"};
        new Script("15 one to come").play(oneMaySit).play("plan(0) = NONE", "waits() = 4",
                "mediator(9, 7) = 3", "plan(0) = 2", "waits() = 0");
        new Script("15 one gone again").play(oneMaySit).play("keep() = 1", "mediator(9, 7) = 3",
                "plan(0) = 2", "back() = 1", "plan(0) = NONE", "waits() = 4", "maySit(2, 0) = NUMBER");
    }

    /** Terms 3: "a DAY (0 to 2)": there is no fourth. */
    private static void daysZeroToTwo() {
        house("15 three days", 2, 4).play("plan(0) = 0", "plan(1) = 6", "plan(2) = 12", "plan(3) = NONE",
                "waits() = 7");
        house("15 three days are enough for three", 2, 3).play("plan(2) = 12", "waits() = 3");
    }

    /** 6 DAY + PAIR is 0 to 17. */
    private static void leastAndGreatestSeat() {
        Script script = house("15 seats from 5 to 17", 4, 3);
        for (int party = 0; party < 4; party++) {
            script.play("kin(0, " + party + ", true) = 1", "kin(1, " + party + ", true) = 1");
        }
        script.play("plan(0) = 5", "plan(1) = 11", "plan(2) = 17", "waits() = 3", "rooms(2) = 1",
                "plan(2) = 17", "waits() = 3");
    }

    /** Terms 3: "ROOMS (1 to 2; 1 at first)": with one, one case a day. */
    private static void oneRoomAtFirst() {
        house("14 one room", 4, 4).play("plan(0) = 0", "plan(1) = 6", "plan(2) = 12", "plan(3) = NONE",
                "waits() = 7", "rooms(1) = 1", "waits() = 7");
    }

    /** Terms 3: "no more CASES than ROOMS .. are on a DAY"; promise 14: "what they were". */
    private static void twoRooms() {
        house("14 two rooms", 4, 4).play("rooms(2) = 1", "plan(0) = 0", "plan(1) = 5", "plan(2) = 6",
                "plan(3) = 11", "waits() = 2", "rooms(2) = 2", "rooms(0) = NUMBER", "rooms(3) = NUMBER",
                "waits() = 2", "rooms(1) = 2", "waits() = 7", "plan(1) = 6", "rooms(1) = 1");
    }

    /** Terms 3: "nobody sits twice on a DAY". */
    private static void nobodySitsTwiceOnADay() {
        house("15 two rooms, three mediators", 3, 4).play("rooms(2) = 1", "plan(0) = 0", "plan(1) = 6",
                "plan(2) = 12", "plan(3) = NONE", "waits() = 7");
        // Case 0 is left to the mediators 0 and 1, the other one to 0 and 2.
        house("15 one is in both pairs", 4, 0).play("rooms(2) = 1", "open(0, 1) = 0", "open(2, 3) = 1",
                "kin(2, 0, true) = 1", "kin(3, 0, true) = 1", "kin(1, 2, true) = 1", "kin(3, 2, true) = 1",
                "plan(0) = 0", "plan(1) = 7", "waits() = 1", "weight(1, 2) = 1", "plan(0) = 6",
                "plan(1) = 1", "waits() = 1", "kin(3, 2, false) = 1", "plan(0) = 0", "plan(1) = 5",
                "waits() = 0");
    }

    /** Terms 3: "its WEIGHT .. times the DAY". */
    private static void weightTimesTheDay() {
        house("16 the heavier the earlier", 2, 4).play("weight(1, 2) = 1", "weight(2, 3) = 1",
                "weight(3, 4) = 1", "plan(3) = 0", "plan(2) = 6", "plan(1) = 12", "plan(0) = NONE",
                "waits() = 11");
        house("16 9 and 8", 2, 2).play("weight(0, 8) = 1", "weight(1, 9) = 1", "plan(0) = 6",
                "plan(1) = 0", "waits() = 8", "weight(0, 9) = 8", "plan(0) = 0", "plan(1) = 6",
                "waits() = 9");
    }

    /** A case with nothing takes no room on any day from those that sit. */
    private static void nothingTakesNoRoom() {
        house("15 nothing takes no room", 2, 0).play("open(0, 1) = 0", "open(1, 2) = 1", "open(3, 0) = 2",
                "kin(0, 3, true) = 1", "weight(1, 2) = 1", "weight(2, 9) = 1", "plan(0) = 6",
                "plan(1) = 0", "plan(2) = NONE", "waits() = 37");
    }

    /** Terms 3: "or times 4 with nothing". */
    private static void timesFourWithNothing() {
        for (int weight = 1; weight <= 9; weight++) {
            house("16 times 4", 0, 1).play("weight(0, " + weight + ") = 1", "waits() = " + 4 * weight);
            house("16 times 4 beside others", 2, 4).play("weight(0, 9) = 1", "weight(1, 9) = 1",
                    "weight(2, 9) = 1", "weight(3, " + weight + ") = 1", "plan(3) = NONE",
                    "waits() = " + (27 + 4 * weight));
        }
    }

    /** Terms 3: "of several .. the first CASE for which they are unlike has the lesser 6 DAY + PAIR". */
    private static void ofSeveralTheLesser() {
        house("15 the lesser pair", 4, 1).play("plan(0) = 0", "kin(0, 0, true) = 1", "plan(0) = 3",
                "kin(1, 1, true) = 1", "plan(0) = 5", "kin(2, 0, true) = 1", "plan(0) = NONE");
        house("15 the first case first", 2, 4).play("weight(0, 2) = 1", "weight(2, 2) = 1", "plan(0) = 0",
                "plan(2) = 6", "plan(1) = 12", "plan(3) = NONE", "waits() = 8");
        // The lesser pair of the first case counts ahead of that of the second one.
        house("15 pairs on one day", 4, 2).play("rooms(2) = 1", "plan(0) = 0", "plan(1) = 5",
                "kin(3, 0, true) = 1", "plan(0) = 0", "plan(1) = 5", "kin(1, 0, true) = 1",
                "plan(0) = 1", "plan(1) = 4", "waits() = 0");
    }

    /** Terms 3: "nothing stands behind all": also behind the last pair of the last day. */
    private static void nothingStandsBehindAll() {
        house("15 nothing stands behind 17", 4, 0).play("open(0, 1) = 0", "open(1, 2) = 1",
                "open(2, 3) = 2", "open(3, 1) = 3", "kin(0, 0, true) = 1", "kin(1, 0, true) = 1",
                "weight(1, 2) = 1", "weight(2, 2) = 1", "plan(0) = 17", "plan(1) = 0", "plan(2) = 6",
                "plan(3) = NONE", "waits() = 8");
    }

    /** THE PLAN waits least, though a case that comes first has to take a greater number for it. */
    private static void makingWay() {
        house("15 a greater pair", 4, 0).play("rooms(2) = 1", "open(0, 1) = 0", "open(2, 3) = 1",
                "kin(2, 2, true) = 1", "kin(0, 2, true) = 1", "plan(0) = 1", "plan(1) = 4", "waits() = 0");
        house("15 a later day", 2, 2).play("weight(1, 2) = 1", "plan(0) = 6", "plan(1) = 0", "waits() = 1");
        house("15 nothing", 2, 4).play("weight(1, 2) = 1", "weight(2, 2) = 1", "weight(3, 2) = 1",
                "plan(0) = NONE", "plan(1) = 0", "plan(2) = 6", "plan(3) = 12", "waits() = 10");
    }

    /** Terms 3: "(of more than 4 the 4 with the least numbers)"; promise 15: "(or it isn't one of the 4)". */
    private static void fourWithTheLeastNumbers() {
        house("15 four of six", 4, 4).play("rooms(2) = 1", "waits() = 2", "open(0, 1) = 4",
                "plan(3) = 11", "plan(4) = NONE", "waits() = 2", "open(0, 1) = 5", "weight(4, 9) = 1",
                "weight(5, 9) = 1", "plan(3) = 11", "plan(4) = NONE", "plan(5) = NONE", "plan(6) = NUMBER",
                "waits() = 2", "close(1) = 1", "plan(1) = STATE", "plan(0) = 0", "plan(4) = 5",
                "plan(2) = 6", "plan(3) = 11", "plan(5) = NONE", "waits() = 2",
                "offer(0, 0, 1) = 0", "plan(0) = 0", "offer(0, 1, 1) = 1", "plan(0) = STATE",
                "plan(4) = 0", "plan(5) = 5", "plan(2) = 6", "plan(3) = 11", "waits() = 2");
    }

    private static void theFourThoughTheyCannotSit() {
        house("15 the four cannot sit", 4, 0).play("open(0, 1) = 0", "open(0, 1) = 1", "open(0, 2) = 2",
                "open(3, 0) = 3", "open(1, 2) = 4", "kin(0, 0, true) = 1", "kin(1, 0, true) = 1",
                "kin(2, 0, true) = 1", "plan(0) = NONE", "plan(3) = NONE", "plan(4) = NONE", "waits() = 16",
                "close(3) = 1", "plan(4) = 0", "waits() = 12");
    }

    /** Promise 15: "STATE: it isn't OPEN"; terms 3: "each of the OPEN CASES". */
    private static void openCasesAlone() {
        Script script = house("15 open cases", 2, 3).play("waits() = 3", "close(0) = 1", "plan(0) = STATE",
                "plan(1) = 0", "plan(2) = 6", "waits() = 1", "weight(0, 9) = 1", "waits() = 1",
                "offer(1, 1, 0) = 0", "plan(1) = 0", "waits() = 1");
        for (int round = 0; round < 5; round++) {
            script.play("offer(2, 0, 1) = 0", "offer(2, 1, 0) = 2");
        }
        script.play("plan(2) = 6", "waits() = 1", "offer(1, 0, 0) = 1", "plan(1) = STATE", "plan(2) = 0",
                "waits() = 0", "close(2) = 1", "plan(2) = STATE", "waits() = 0");
    }

    /** Promise 16 names no refusal: nothing waits where nobody is, and 144 is the most. */
    private static void waitsLeastAndMost() {
        new Script("16 nobody").play("waits() = 0", "rooms(2) = 1", "waits() = 0", "mediator(0, 1) = 0",
                "mediator(0, 1) = 1", "waits() = 0");
        Script script = house("16 the most", 0, 6);
        for (int one = 0; one < 6; one++) {
            script.play("weight(" + one + ", 9) = 1", "waits() = " + (16 + 32 * Math.min(4, one + 1)));
        }
        script.play("mediator(9, 1) = 0", "waits() = 144", "mediator(9, 1) = 1", "waits() = 63");
    }

    private static void askingChangesNothing() {
        Twin.unchanged("15 asking", Houses.full(), "plan(0) = 12", "plan(4) = 0", "plan(5) = 9",
                "waits() = 4");
        Twin.unchanged("15 asking", Houses.middle(), "plan(0) = 6", "plan(3) = 3", "waits() = 1",
                "maySit(0, 0) = 1", "maySit(0, 3) = 0");
    }
}
