/** Terms 4 and promises 17 to 25: a test for each sentence that names an edge. */
public final class EdgesOfTermsTest {
    public static void main(String[] args) {
        onlyOfASettledCase();
        fiveAtMost();
        firstAndLastHour();
        leastAndGreatestOfATerm();
        strikeDownToNone();
        strikeMakesRoom();
        hoursBothWithThem();
        noTwoTheSame();
        asManyMustsAsHours();
        mustNotOfItsActAlone();
        ofItsSideAndCaseAlone();
        theLesserHourAtTheFirst();
        withoutMustsAlways();
        theFirstThatBreaks();
        withoutThoseBehindIt();
        unknownAtFirst();
        logBecomes();
        mustIsJudged();
        mustNotIsJudged();
        judgedAtTheEndsOfItsHours();
        judgedOverTheWholeDay();
        howManyOfEach();
        howManyAtMost();
        askingChangesNothing();
        Script.end();
    }

    /** Case 0 is settled; case 1 is open. */
    private static Script house(String title) {
        return new Script(title).play("party(0, 0) = 0", "party(1, 0) = 1", "open(0, 1) = 0",
                "open(0, 1) = 1", "offer(0, 0, 10) = 0", "offer(0, 1, 20) = 1");
    }

    /** Promise 17: "STATE: it isn't SETTLED". */
    private static void onlyOfASettledCase() {
        house("17 settled alone").play("term(1, 0, true, 0, 0, 0) = STATE", "offer(1, 0, 5) = 0",
                "term(1, 0, true, 0, 0, 0) = STATE", "offer(1, 1, 4) = 2",
                "term(1, 0, true, 0, 0, 0) = STATE", "offer(1, 0, 5) = 0", "offer(1, 1, 5) = 1",
                "term(1, 0, true, 0, 0, 0) = 0", "open(0, 1) = 2", "close(2) = 1",
                "term(2, 0, true, 0, 0, 0) = STATE", "term(2, 0, false, 5, 23, 23) = STATE", "many(7) = 1");
    }

    /** Terms 4: "TERMS .. are numbered from 0 as they come, 5 at most": of both sides together. */
    private static void fiveAtMost() {
        Script script = house("17 five terms").play("offer(1, 0, 5) = 0", "offer(1, 1, 5) = 1");
        for (int i = 0; i < 5; i++) {
            script.play("termOf(0, " + i + ", 0) = NUMBER", "many(7) = " + i,
                    "term(0, " + i % 2 + ", " + (i < 3) + ", " + i + ", " + i + ", 23) = " + i,
                    "termOf(0, " + i + ", 0) = " + i % 2);
        }
        script.play("many(7) = 5", "term(0, 0, true, 0, 0, 0) = FULL", "term(0, 1, false, 0, 0, 0) = FULL",
                "termOf(0, 5, 0) = NUMBER", "many(7) = 5", "term(1, 0, true, 0, 0, 0) = 0", "many(7) = 6");
    }

    /** Terms 4: "(0 to 23, both with them)"; promise 17: "or a is above b". */
    private static void firstAndLastHour() {
        house("17 hours").play("term(0, 0, true, 0, 0, 0) = 0", "term(0, 0, true, 0, 23, 23) = 1",
                "term(0, 0, true, 0, 0, 23) = 2", "term(0, 0, true, 0, 22, 23) = 3",
                "term(0, 0, true, 0, 23, 22) = NUMBER", "term(0, 0, true, 0, 1, 0) = NUMBER",
                "term(0, 0, true, 0, -1, 5) = NUMBER", "term(0, 0, true, 0, 5, 24) = NUMBER",
                "term(0, 0, true, 0, 24, 23) = NUMBER", "term(0, 0, true, 0, 0, -1) = NUMBER",
                "many(7) = 4", "hour(0, 0) = 0", "hour(0, 1) = 23", "hour(0, 2) = 1", "hour(0, 3) = 22");
    }

    /** Promise 19: each what of the least and the greatest term that may be. */
    private static void leastAndGreatestOfATerm() {
        house("19 the least").play("term(0, 0, false, 0, 0, 0) = 0", "termOf(0, 0, 0) = 0",
                "termOf(0, 0, 1) = 0", "termOf(0, 0, 2) = 0", "termOf(0, 0, 3) = 0", "termOf(0, 0, 4) = 0",
                "termOf(0, 0, 5) = NUMBER", "termOf(0, 0, -1) = NUMBER");
        house("19 the greatest").play("term(0, 1, true, 5, 23, 23) = 0", "termOf(0, 0, 0) = 1",
                "termOf(0, 0, 1) = 1", "termOf(0, 0, 2) = 5", "termOf(0, 0, 3) = 23",
                "termOf(0, 0, 4) = 23", "termOf(0, 1, 0) = NUMBER", "termOf(0, -1, 0) = NUMBER");
        house("19 first and last hour").play("term(0, 1, true, 5, 0, 23) = 0", "termOf(0, 0, 3) = 0",
                "termOf(0, 0, 4) = 23");
    }

    /** Promise 18: "how many there are .. NONE: it has none". */
    private static void strikeDownToNone() {
        Script script = house("18 strike").play("strike(0) = NONE", "strike(1) = NONE", "strike(2) = NUMBER",
                "strike(-1) = NUMBER");
        for (int i = 0; i < 5; i++) {
            script.play("term(0, 1, true, " + i + ", 0, 23) = " + i);
        }
        for (int i = 4; i >= 0; i--) {
            script.play("termOf(0, " + i + ", 2) = " + i, "strike(0) = " + i,
                    "termOf(0, " + i + ", 2) = NUMBER", "many(7) = " + i);
        }
        script.play("strike(0) = NONE", "many(7) = 0", "canHold(0, 1) = 1");
    }

    /** Promise 18: "The latest TERM of a CASE is no more", so another may come when it was full. */
    private static void strikeMakesRoom() {
        Script script = house("18 strike makes room");
        for (int i = 0; i < 5; i++) {
            script.play("term(0, 0, true, 1, 7, 7) = " + i);
        }
        script.play("term(0, 0, true, 1, 7, 7) = FULL", "strike(0) = 4", "term(0, 1, false, 4, 2, 3) = 4",
                "term(0, 0, true, 1, 7, 7) = FULL", "termOf(0, 4, 0) = 1", "termOf(0, 4, 1) = 0",
                "termOf(0, 4, 2) = 4", "termOf(0, 4, 3) = 2", "termOf(0, 4, 4) = 3", "termOf(0, 3, 2) = 1");
    }

    /** Terms 4: "in the hours from a to b (.. both with them)", of musts and of mustn'ts. */
    private static void hoursBothWithThem() {
        house("20 both ends").play("term(0, 0, true, 1, 5, 7) = 0", "hour(0, 0) = 5",
                "term(0, 0, false, 1, 5, 5) = 1", "hour(0, 0) = 6", "term(0, 0, false, 1, 6, 6) = 2",
                "hour(0, 0) = 7", "canHold(0, 0) = 1", "term(0, 0, false, 1, 7, 7) = 3", "hour(0, 0) = NONE",
                "canHold(0, 0) = 0", "breaks(0, 0) = 3");
        house("20 a mustn't up to the last but one").play("term(0, 0, true, 1, 5, 7) = 0",
                "term(0, 0, false, 1, 0, 6) = 1", "hour(0, 0) = 7");
        house("20 a mustn't from the second on").play("term(0, 0, true, 1, 5, 7) = 0",
                "term(0, 0, false, 1, 6, 23) = 1", "hour(0, 0) = 5");
        house("20 mustn'ts ahead of it and behind it").play("term(0, 0, true, 1, 5, 5) = 0",
                "term(0, 0, false, 1, 0, 4) = 1", "term(0, 0, false, 1, 6, 23) = 2", "hour(0, 0) = 5");
        house("20 the first hour of the day").play("term(0, 1, true, 1, 0, 1) = 0", "hour(0, 0) = 0",
                "term(0, 1, false, 1, 0, 0) = 1", "hour(0, 0) = 1");
        house("20 the last hour of the day").play("term(0, 1, true, 1, 22, 23) = 0", "hour(0, 0) = 22",
                "term(0, 1, false, 1, 0, 22) = 1", "hour(0, 0) = 23", "term(0, 1, false, 1, 23, 23) = 2",
                "hour(0, 0) = NONE");
    }

    /** Terms 4: "A SIDE does one ACT at an hour at most", also of the same act. */
    private static void noTwoTheSame() {
        house("20 the same act twice").play("term(0, 0, true, 1, 4, 4) = 0", "term(0, 0, true, 1, 4, 4) = 1",
                "canHold(0, 0) = 0", "hour(0, 0) = NONE", "hour(0, 1) = NONE", "breaks(0, 0) = 1",
                "strike(0) = 1", "term(0, 0, true, 1, 4, 5) = 1", "hour(0, 0) = 4", "hour(0, 1) = 5");
        house("20 two acts").play("term(0, 0, true, 1, 4, 4) = 0", "term(0, 0, true, 2, 4, 4) = 1",
                "canHold(0, 0) = 0", "strike(0) = 1", "term(0, 0, true, 2, 3, 4) = 1", "hour(0, 0) = 4",
                "hour(0, 1) = 3");
    }

    /** As many musts as hours can hold, one more can't: early, late and around a mustn't. */
    private static void asManyMustsAsHours() {
        for (int first = 0; first <= 20; first++) {
            Script script = house("21 five musts from " + first);
            for (int i = 0; i < 4; i++) {
                script.play("term(0, 0, true, " + i + ", " + first + ", " + (first + 3) + ") = " + i,
                        "canHold(0, 0) = 1", "breaks(0, 0) = NONE", "hour(0, " + i + ") = " + (first + i));
            }
            script.play("term(0, 0, true, 5, " + first + ", " + (first + 3) + ") = 4", "canHold(0, 0) = 0",
                    "breaks(0, 0) = 4", "hour(0, 0) = NONE", "hour(0, 4) = NONE");
        }
        house("21 five in five hours").play("term(0, 0, true, 0, 19, 23) = 0",
                "term(0, 0, true, 0, 19, 23) = 1", "term(0, 0, true, 0, 19, 23) = 2",
                "term(0, 0, true, 0, 19, 23) = 3", "term(0, 0, true, 0, 19, 23) = 4", "canHold(0, 0) = 1",
                "hour(0, 0) = 19", "hour(0, 4) = 23");
        house("21 three in three hours without the one between").play("term(0, 0, true, 0, 10, 12) = 0",
                "term(0, 0, true, 0, 10, 12) = 1", "term(0, 0, false, 0, 11, 11) = 2", "canHold(0, 0) = 1",
                "hour(0, 0) = 10", "hour(0, 1) = 12", "term(0, 0, true, 0, 10, 12) = 3",
                "canHold(0, 0) = 0", "breaks(0, 0) = 3");
    }

    /** Terms 4: "at which no MUSTN'T of its ACT stands". */
    private static void mustNotOfItsActAlone() {
        for (int act = 0; act <= 5; act++) {
            for (int other = 0; other <= 5; other++) {
                boolean holds = act != other;
                house("20 mustn't of act " + other).play("term(0, 0, true, " + act + ", 9, 9) = 0",
                        "term(0, 0, false, " + other + ", 0, 23) = 1",
                        "canHold(0, 0) = " + (holds ? 1 : 0), "hour(0, 0) = " + (holds ? "9" : "NONE"),
                        "breaks(0, 0) = " + (holds ? "NONE" : "1"), "hour(0, 1) = STATE");
            }
        }
    }

    /** Terms of the other side, and of another case, are in nobody's way. */
    private static void ofItsSideAndCaseAlone() {
        house("20 the other side").play("term(0, 0, true, 1, 9, 9) = 0", "term(0, 1, true, 1, 9, 9) = 1",
                "term(0, 1, false, 1, 9, 9) = 2", "hour(0, 0) = 9", "hour(0, 1) = NONE",
                "canHold(0, 0) = 1", "canHold(0, 1) = 0", "breaks(0, 0) = NONE", "breaks(0, 1) = 2",
                "hour(0, 2) = STATE");
        house("20 the other case").play("offer(1, 0, 5) = 0", "offer(1, 1, 5) = 1",
                "term(0, 0, true, 1, 9, 9) = 0", "term(1, 0, true, 1, 9, 9) = 0",
                "term(1, 0, false, 1, 9, 9) = 1", "hour(0, 0) = 9", "hour(1, 0) = NONE",
                "canHold(0, 0) = 1", "canHold(1, 0) = 0", "breaks(0, 0) = NONE", "breaks(1, 0) = 1");
        house("20 the log is not asked").play("term(0, 0, true, 1, 9, 10) = 0", "log(0, 0, 9, 6) = 7",
                "hour(0, 0) = 9", "log(0, 0, 9, 2) = 6", "hour(0, 0) = 9", "canHold(0, 0) = 1");
    }

    /** Terms 4: "at the first MUST for which two are unlike, the lesser hour". */
    private static void theLesserHourAtTheFirst() {
        house("20 the first takes the lesser").play("term(0, 0, true, 1, 3, 4) = 0",
                "term(0, 0, true, 2, 3, 4) = 1", "hour(0, 0) = 3", "hour(0, 1) = 4");
        house("20 the first makes way").play("term(0, 0, true, 1, 3, 9) = 0",
                "term(0, 0, true, 2, 3, 3) = 1", "hour(0, 0) = 4", "hour(0, 1) = 3");
        house("20 mustn'ts between the musts").play("term(0, 0, false, 2, 3, 3) = 0",
                "term(0, 0, true, 1, 3, 5) = 1", "term(0, 0, false, 1, 4, 4) = 2",
                "term(0, 0, true, 2, 3, 5) = 3", "term(0, 0, true, 1, 3, 5) = 4", "hour(0, 1) = 3",
                "hour(0, 3) = 4", "hour(0, 4) = 5", "hour(0, 0) = STATE", "hour(0, 2) = STATE");
        house("20 the last pushes all").play("term(0, 1, true, 0, 0, 23) = 0", "term(0, 1, true, 0, 0, 23) = 1",
                "term(0, 1, true, 0, 0, 23) = 2", "term(0, 1, true, 0, 0, 23) = 3", "hour(0, 0) = 0",
                "hour(0, 3) = 3", "term(0, 1, true, 0, 0, 0) = 4", "hour(0, 0) = 1", "hour(0, 1) = 2",
                "hour(0, 2) = 3", "hour(0, 3) = 4", "hour(0, 4) = 0");
    }

    /** Terms 4: "(without MUSTS: always)". */
    private static void withoutMustsAlways() {
        house("21 without terms").play("canHold(0, 0) = 1", "canHold(0, 1) = 1", "canHold(1, 0) = 1",
                "canHold(1, 1) = 1", "breaks(0, 0) = NONE", "breaks(1, 1) = NONE");
        house("21 mustn'ts alone").play("term(0, 0, false, 0, 0, 23) = 0", "term(0, 0, false, 0, 0, 23) = 1",
                "term(0, 0, false, 1, 0, 23) = 2", "term(0, 0, false, 2, 0, 23) = 3",
                "term(0, 0, false, 3, 0, 23) = 4", "canHold(0, 0) = 1", "breaks(0, 0) = NONE");
        house("21 of a closed case").play("close(1) = 1", "canHold(1, 0) = 1", "breaks(1, 0) = NONE");
    }

    /** Promise 22: "The first TERM with which ..": at the least it is 1, at the most 4. */
    private static void theFirstThatBreaks() {
        house("22 the second one").play("term(0, 1, false, 3, 8, 8) = 0", "breaks(0, 1) = NONE",
                "term(0, 1, true, 3, 8, 8) = 1", "breaks(0, 1) = 1", "term(0, 1, true, 3, 8, 8) = 2",
                "breaks(0, 1) = 1", "breaks(0, 0) = NONE");
        house("22 the last one").play("term(0, 1, true, 3, 8, 9) = 0", "term(0, 0, true, 3, 8, 8) = 1",
                "term(0, 0, false, 4, 8, 8) = 2", "term(0, 1, true, 3, 8, 9) = 3", "breaks(0, 0) = NONE",
                "breaks(0, 1) = NONE", "term(0, 1, true, 3, 8, 9) = 4", "breaks(0, 1) = 4",
                "breaks(0, 0) = NONE", "canHold(0, 1) = 0", "strike(0) = 4", "breaks(0, 1) = NONE");
        house("22 a mustn't breaks").play("term(0, 0, true, 3, 8, 8) = 0", "term(0, 1, false, 3, 8, 8) = 1",
                "breaks(0, 0) = NONE", "term(0, 0, false, 3, 8, 8) = 2", "breaks(0, 0) = 2",
                "breaks(0, 1) = NONE");
    }

    /** Promise 22: "(and those of its SIDE ahead of it, without those behind it)". */
    private static void withoutThoseBehindIt() {
        house("22 what comes behind does not count").play("term(0, 0, true, 1, 8, 9) = 0",
                "term(0, 0, true, 2, 8, 9) = 1", "term(0, 0, false, 1, 8, 8) = 2", "breaks(0, 0) = NONE",
                "term(0, 0, false, 2, 8, 8) = 3", "breaks(0, 0) = 3", "term(0, 0, true, 5, 8, 8) = 4",
                "breaks(0, 0) = 3", "canHold(0, 0) = 0", "strike(0) = 4", "breaks(0, 0) = 3",
                "strike(0) = 3", "breaks(0, 0) = NONE", "canHold(0, 0) = 1");
        house("22 both sides break").play("term(0, 0, true, 1, 8, 8) = 0", "term(0, 1, true, 1, 8, 8) = 1",
                "term(0, 0, true, 1, 8, 8) = 2", "term(0, 1, true, 1, 8, 8) = 3", "breaks(0, 0) = 2",
                "breaks(0, 1) = 3");
    }

    /** Terms 4: "UNKNOWN (7; at first)", of every case, side and hour. */
    private static void unknownAtFirst() {
        Script script = house("23 unknown at first").play("open(0, 1) = 2", "open(0, 1) = 3",
                "open(0, 1) = 4", "open(0, 1) = 5");
        for (int one = 0; one < 6; one++) {
            for (int side = 0; side < 2; side++) {
                for (int hour = 0; hour < 24; hour++) {
                    script.play("log(" + one + ", " + side + ", " + hour + ", " + (one + side) % 7 + ") = 7");
                }
            }
        }
        for (int one = 0; one < 6; one++) {
            for (int side = 0; side < 2; side++) {
                for (int hour = 0; hour < 24; hour += 23) {
                    script.play("log(" + one + ", " + side + ", " + hour + ", 7) = " + (one + side) % 7);
                }
            }
        }
    }

    /** Promise 23: "becomes act (0 to 7): what it was", in every state of a case. */
    private static void logBecomes() {
        Script script = house("23 log").play("close(1) = 1");
        for (int one = 0; one < 2; one++) {
            for (int act = 0; act <= 7; act++) {
                int was = act == 0 ? 7 : act - 1;
                script.play("log(" + one + ", 0, 0, " + act + ") = " + was,
                        "log(" + one + ", 1, 23, " + act + ") = " + was);
            }
            script.play("log(" + one + ", 0, 0, 8) = NUMBER", "log(" + one + ", 0, 0, -1) = NUMBER",
                    "log(" + one + ", 0, 24, 0) = NUMBER", "log(" + one + ", 0, -1, 0) = NUMBER",
                    "log(" + one + ", 2, 0, 0) = NUMBER", "log(" + one + ", 0, 0, 7) = 7",
                    "log(" + one + ", 0, 1, 7) = 7", "log(" + one + ", 0, 23, 7) = 7",
                    "log(" + one + ", 1, 0, 7) = 7");
        }
    }

    /** Terms 4: "a MUST is KEPT .., BROKEN .., else UNKNOWN". */
    private static void mustIsJudged() {
        house("24 must of one hour").play("term(0, 0, true, 5, 4, 4) = 0", "judged(0, 0) = 2",
                "log(0, 0, 4, 6) = 7", "judged(0, 0) = 0", "log(0, 0, 4, 0) = 6", "judged(0, 0) = 0",
                "log(0, 0, 4, 5) = 0", "judged(0, 0) = 1", "log(0, 0, 4, 7) = 5", "judged(0, 0) = 2");
        house("24 must with a gap").play("term(0, 0, true, 0, 4, 6) = 0", "log(0, 0, 4, 6) = 7",
                "log(0, 0, 6, 6) = 7", "judged(0, 0) = 2", "log(0, 0, 5, 1) = 7", "judged(0, 0) = 0",
                "log(0, 0, 5, 7) = 1", "log(0, 0, 6, 0) = 6", "judged(0, 0) = 1", "log(0, 0, 4, 7) = 6",
                "judged(0, 0) = 1");
    }

    /** Terms 4: "A MUSTN'T is BROKEN if it was done at one of them; KEPT if all are known ..". */
    private static void mustNotIsJudged() {
        house("24 mustn't of one hour").play("term(0, 1, false, 5, 4, 4) = 0", "judged(0, 0) = 2",
                "log(0, 1, 4, 6) = 7", "judged(0, 0) = 1", "log(0, 1, 4, 0) = 6", "judged(0, 0) = 1",
                "log(0, 1, 4, 5) = 0", "judged(0, 0) = 0", "log(0, 1, 4, 7) = 5", "judged(0, 0) = 2");
        house("24 mustn't with a gap").play("term(0, 1, false, 0, 4, 6) = 0", "log(0, 1, 4, 6) = 7",
                "log(0, 1, 6, 6) = 7", "judged(0, 0) = 2", "log(0, 1, 5, 1) = 7", "judged(0, 0) = 1",
                "log(0, 1, 5, 7) = 1", "log(0, 1, 6, 0) = 6", "judged(0, 0) = 0", "log(0, 1, 4, 7) = 6",
                "judged(0, 0) = 0");
    }

    /** The hour ahead of the first one and the one behind the last one don't count. */
    private static void judgedAtTheEndsOfItsHours() {
        for (int done = 8; done <= 13; done++) {
            boolean within = done >= 9 && done <= 12;
            house("24 done at " + done).play("term(0, 0, true, 3, 9, 12) = 0",
                    "term(0, 0, false, 3, 9, 12) = 1", "log(0, 0, " + done + ", 3) = 7",
                    "log(0, 1, 10, 3) = 7", "log(1, 0, 10, 3) = 7",
                    "judged(0, 0) = " + (within ? 1 : 2), "judged(0, 1) = " + (within ? 0 : 2));
            Script known = house("24 unknown at " + done).play("term(0, 0, true, 3, 9, 12) = 0",
                    "term(0, 0, false, 3, 9, 12) = 1");
            for (int hour = 8; hour <= 13; hour++) {
                known.play("log(0, 0, " + hour + ", " + (hour == done ? 7 : 6) + ") = 7");
            }
            known.play("judged(0, 0) = " + (within ? 2 : 0), "judged(0, 1) = " + (within ? 2 : 1));
        }
    }

    private static void judgedOverTheWholeDay() {
        Script script = house("24 the whole day").play("term(0, 1, true, 2, 0, 23) = 0",
                "term(0, 1, false, 2, 0, 23) = 1");
        for (int hour = 0; hour < 24; hour++) {
            script.play("judged(0, 0) = 2", "judged(0, 1) = 2", "log(0, 1, " + hour + ", 6) = 7");
        }
        script.play("judged(0, 0) = 0", "judged(0, 1) = 1", "log(0, 1, 0, 2) = 6", "judged(0, 0) = 1",
                "judged(0, 1) = 0", "log(0, 1, 0, 6) = 2", "log(0, 1, 23, 2) = 6", "judged(0, 0) = 1",
                "judged(0, 1) = 0", "log(0, 1, 23, 7) = 2", "judged(0, 0) = 2", "judged(0, 1) = 2");
    }

    /** Promise 25: each what counts its own. */
    private static void howManyOfEach() {
        new Script("25 each what").play("party(0, 0) = 0", "party(0, 0) = 1", "party(0, 0) = 2",
                "mediator(0, 1) = 0", "mediator(0, 1) = 1", "open(0, 1) = 0", "open(0, 1) = 1",
                "open(0, 1) = 2", "open(0, 1) = 3", "open(0, 1) = 4", "close(4) = 1", "mark(0, 4) = 1",
                "offer(3, 0, 1) = 0", "offer(3, 1, 1) = 1", "term(3, 0, true, 0, 0, 0) = 0",
                "term(3, 0, true, 1, 1, 1) = 1", "term(3, 0, false, 0, 0, 0) = 2",
                "term(3, 1, true, 0, 0, 0) = 3", "term(3, 0, true, 0, 0, 1) = 4", "log(3, 0, 0, 0) = 7",
                "log(3, 1, 0, 6) = 7", "many(0) = 3", "many(1) = 2", "many(2) = 5", "many(3) = 3",
                "many(4) = 1", "many(5) = 1", "many(6) = 4", "many(7) = 5", "many(8) = 2", "many(9) = 2",
                "many(10) = 1", "many(11) = NUMBER", "many(-1) = NUMBER");
    }

    private static void howManyAtMost() {
        Script script = new Script("25 at most");
        for (int i = 0; i < 8; i++) {
            script.play("party(" + i + ", 0) = " + i);
        }
        for (int i = 0; i < 4; i++) {
            script.play("mediator(9, 7) = " + i);
        }
        for (int one = 0; one < 6; one++) {
            script.play("open(" + one + ", 7) = " + one);
        }
        script.play("many(3) = 6", "many(4) = 0", "many(6) = 6", "mark(0, 1) = 1", "mark(2, 3) = 2",
                "mark(4, 5) = 3", "mark(1, 2) = 4", "mark(0, 2) = 5", "mark(0, 3) = 6", "many(6) = 2");
        for (int one = 0; one < 6; one++) {
            script.play("offer(" + one + ", 0, 0) = 0", "offer(" + one + ", 1, 0) = 1");
            for (int term = 0; term < 5; term++) {
                script.play("term(" + one + ", 0, true, 1, 3, 3) = " + term);
            }
        }
        script.play("many(0) = 8", "many(1) = 4", "many(2) = 6", "many(3) = 0", "many(4) = 6",
                "many(5) = 6", "many(7) = 30", "many(8) = 0", "many(9) = 0", "many(10) = 30");
        for (int one = 0; one < 6; one++) {
            script.play("log(" + one + ", 0, 3, 1) = 7", "many(8) = " + 5 * (one + 1));
        }
        script.play("many(10) = 0", "many(9) = 0");
        for (int one = 0; one < 6; one++) {
            script.play("log(" + one + ", 0, 3, 2) = 1", "many(9) = " + 5 * (one + 1));
        }
        script.play("many(8) = 0", "many(10) = 0", "many(7) = 30");
    }

    private static void askingChangesNothing() {
        Twin.unchanged("19 to 25 asking", Houses.full(), "termOf(1, 3, 4) = 7", "canHold(1, 0) = 0",
                "canHold(1, 1) = 1", "breaks(1, 0) = 3", "judged(1, 0) = 2", "judged(1, 4) = 0",
                "many(6) = 2", "many(9) = 1", "of(5, 5) = 3", "put(4, 1) = 1", "learns(0, 0, 4, true) = 79");
        Twin.unchanged("19 to 25 asking", Houses.middle(), "hour(1, 0) = 9", "hour(1, 2) = 0",
                "canHold(1, 0) = 1", "judged(1, 0) = 1", "judged(1, 2) = 1", "judged(1, 1) = 1",
                "learns(0, 1, 0, false) = 41");
    }
}
