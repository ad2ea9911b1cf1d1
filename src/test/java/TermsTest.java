/** Promises 17 to 25: terms, their table, the log, and how many there are. */
public final class TermsTest {
    public static void main(String[] args) {
        term();
        strike();
        termOf();
        hour();
        hourMakesWay();
        canHold();
        breaks();
        log();
        judged();
        many();
        Script.end();
    }

    /** Case 0 is settled; case 1 is open. */
    private static Script settled(String title) {
        return new Script(title).play("party(0, 0) = 0", "party(1, 0) = 1", "open(0, 1) = 0",
                "open(0, 1) = 1", "offer(0, 0, 10) = 0", "offer(0, 1, 20) = 1");
    }

    private static void term() {
        settled("17 term").play(
                "term(2, 0, true, 0, 0, 0) = NUMBER", "term(-1, 0, true, 0, 0, 0) = NUMBER",
                "term(0, -1, true, 0, 0, 0) = NUMBER", "term(0, 2, true, 0, 0, 0) = NUMBER",
                "term(0, 0, true, -1, 0, 0) = NUMBER", "term(0, 0, true, 6, 0, 0) = NUMBER",
                "term(0, 0, true, 0, -1, 0) = NUMBER", "term(0, 0, true, 0, 0, 24) = NUMBER",
                "term(0, 0, true, 0, 24, 24) = NUMBER", "term(0, 0, true, 0, 5, 4) = NUMBER",
                "term(0, 0, true, 0, MIN, MAX) = NUMBER", "term(MAX, 0, true, 0, 0, 0) = NUMBER",
                "term(0, 0, true, MIN, 0, 0) = NUMBER", "many(7) = 0",
                "term(1, 0, true, 0, 0, 0) = STATE", "term(1, 0, true, 6, 0, 0) = NUMBER",
                "close(1) = 1", "term(1, 0, true, 0, 0, 0) = STATE",
                "term(0, 0, true, 0, 0, 0) = 0", "term(0, 1, false, 5, 23, 23) = 1",
                "term(0, 0, true, 0, 0, 23) = 2", "term(0, 0, true, 0, 0, 23) = 3",
                "term(0, 1, true, 3, 4, 5) = 4", "term(0, 1, true, 3, 4, 5) = FULL",
                "term(0, 1, true, 3, 5, 4) = NUMBER", "many(7) = 5");
    }

    private static void strike() {
        settled("18 strike").play(
                "strike(-1) = NUMBER", "strike(2) = NUMBER", "strike(MAX) = NUMBER",
                "strike(0) = NONE", "strike(1) = NONE",
                "term(0, 0, true, 1, 2, 3) = 0", "term(0, 1, false, 2, 3, 4) = 1",
                "strike(1) = NONE", "strike(0) = 1", "termOf(0, 1, 0) = NUMBER",
                "termOf(0, 0, 2) = 1", "term(0, 0, false, 4, 6, 8) = 1", "termOf(0, 1, 0) = 0",
                "termOf(0, 1, 1) = 0", "termOf(0, 1, 2) = 4", "termOf(0, 1, 3) = 6",
                "termOf(0, 1, 4) = 8", "strike(0) = 1", "strike(0) = 0", "strike(0) = NONE",
                "many(7) = 0");
    }

    private static void termOf() {
        settled("19 termOf").play(
                "termOf(0, 0, 0) = NUMBER", "term(0, 1, true, 5, 0, 23) = 0",
                "term(0, 0, false, 0, 7, 9) = 1",
                "termOf(0, 0, 0) = 1", "termOf(0, 0, 1) = 1", "termOf(0, 0, 2) = 5",
                "termOf(0, 0, 3) = 0", "termOf(0, 0, 4) = 23",
                "termOf(0, 1, 0) = 0", "termOf(0, 1, 1) = 0", "termOf(0, 1, 2) = 0",
                "termOf(0, 1, 3) = 7", "termOf(0, 1, 4) = 9",
                "termOf(0, 1, -1) = NUMBER", "termOf(0, 1, 5) = NUMBER", "termOf(0, 2, 0) = NUMBER",
                "termOf(0, -1, 0) = NUMBER", "termOf(1, 0, 0) = NUMBER", "termOf(2, 0, 0) = NUMBER",
                "termOf(-1, 0, 0) = NUMBER", "termOf(MAX, MIN, MAX) = NUMBER");
    }

    private static void hour() {
        settled("20 hour").play(
                "hour(0, 0) = NUMBER", "hour(2, 0) = NUMBER", "hour(-1, 0) = NUMBER",
                "hour(1, 0) = NUMBER", "term(0, 0, true, 1, 23, 23) = 0", "hour(0, 0) = 23",
                "hour(0, -1) = NUMBER", "hour(0, 1) = NUMBER", "hour(0, MIN) = NUMBER",
                "term(0, 0, false, 1, 0, 22) = 1", "hour(0, 0) = 23", "hour(0, 1) = STATE",
                "term(0, 1, true, 1, 23, 23) = 2", "hour(0, 0) = 23", "hour(0, 2) = 23",
                "term(0, 1, false, 1, 23, 23) = 3", "hour(0, 0) = 23", "hour(0, 2) = NONE",
                "hour(0, 3) = STATE", "term(0, 0, true, 2, 23, 23) = 4", "hour(0, 0) = NONE",
                "hour(0, 4) = NONE", "hour(0, 1) = STATE", "strike(0) = 4", "hour(0, 0) = 23");
        settled("20 hour between mustn'ts").play(
                "term(0, 0, true, 1, 0, 23) = 0", "hour(0, 0) = 0", "term(0, 0, false, 1, 0, 4) = 1",
                "hour(0, 0) = 5", "term(0, 0, false, 1, 6, 23) = 2", "hour(0, 0) = 5",
                "term(0, 0, false, 2, 5, 5) = 3", "hour(0, 0) = 5",
                "term(0, 0, false, 1, 5, 5) = 4", "hour(0, 0) = NONE");
    }

    private static void hourMakesWay() {
        settled("20 no two the same hour").play(
                "term(0, 0, true, 1, 3, 9) = 0", "term(0, 0, true, 1, 3, 9) = 1",
                "hour(0, 0) = 3", "hour(0, 1) = 4", "term(0, 0, true, 2, 3, 4) = 2",
                "hour(0, 0) = 3", "hour(0, 1) = 5", "hour(0, 2) = 4",
                "term(0, 0, true, 2, 3, 4) = 3", "hour(0, 0) = 5", "hour(0, 1) = 6",
                "hour(0, 2) = 3", "hour(0, 3) = 4",
                "term(0, 0, true, 3, 4, 4) = 4", "hour(0, 0) = NONE", "hour(0, 4) = NONE");
        settled("20 a chain makes way").play(
                "term(0, 1, true, 0, 0, 1) = 0", "term(0, 1, true, 1, 1, 2) = 1",
                "term(0, 1, true, 2, 2, 3) = 2", "term(0, 1, true, 3, 3, 4) = 3",
                "hour(0, 0) = 0", "hour(0, 1) = 1", "hour(0, 2) = 2", "hour(0, 3) = 3",
                "term(0, 1, true, 4, 0, 0) = 4", "hour(0, 0) = 1", "hour(0, 1) = 2",
                "hour(0, 2) = 3", "hour(0, 3) = 4", "hour(0, 4) = 0");
        settled("20 all five late").play(
                "term(0, 1, true, 0, 0, 23) = 0", "term(0, 1, true, 0, 0, 23) = 1",
                "term(0, 1, true, 0, 0, 23) = 2", "term(0, 1, true, 0, 0, 23) = 3",
                "term(0, 1, true, 0, 0, 23) = 4", "hour(0, 4) = 4", "hour(0, 0) = 0");
    }

    private static void canHold() {
        settled("21 canHold").play(
                "canHold(2, 0) = NUMBER", "canHold(-1, 0) = NUMBER", "canHold(0, -1) = NUMBER",
                "canHold(0, 2) = NUMBER", "canHold(MIN, MAX) = NUMBER",
                "canHold(0, 0) = 1", "canHold(0, 1) = 1", "canHold(1, 0) = 1",
                "term(0, 0, false, 1, 0, 23) = 0", "canHold(0, 0) = 1",
                "term(0, 0, true, 2, 4, 4) = 1", "canHold(0, 0) = 1",
                "term(0, 1, true, 1, 4, 4) = 2", "canHold(0, 0) = 1", "canHold(0, 1) = 1",
                "term(0, 0, true, 1, 4, 9) = 3", "canHold(0, 0) = 0", "canHold(0, 1) = 1",
                "strike(0) = 3", "canHold(0, 0) = 1", "term(0, 0, true, 3, 4, 4) = 3",
                "canHold(0, 0) = 0", "canHold(0, 1) = 1", "canHold(1, 0) = 1");
        settled("21 five in five hours").play(
                "term(0, 0, true, 0, 0, 4) = 0", "term(0, 0, true, 0, 0, 4) = 1",
                "term(0, 0, true, 0, 0, 4) = 2", "term(0, 0, true, 0, 0, 4) = 3",
                "term(0, 0, true, 0, 0, 4) = 4", "canHold(0, 0) = 1", "strike(0) = 4",
                "term(0, 0, true, 0, 0, 3) = 4", "canHold(0, 0) = 1", "strike(0) = 4",
                "strike(0) = 3", "strike(0) = 2", "term(0, 0, true, 0, 2, 2) = 2",
                "term(0, 0, true, 0, 2, 2) = 3", "canHold(0, 0) = 0");
    }

    private static void breaks() {
        settled("22 breaks").play(
                "breaks(2, 0) = NUMBER", "breaks(-1, 0) = NUMBER", "breaks(0, -1) = NUMBER",
                "breaks(0, 2) = NUMBER", "breaks(MAX, 0) = NUMBER",
                "breaks(0, 0) = NONE", "breaks(1, 1) = NONE",
                "term(0, 0, true, 1, 5, 5) = 0", "term(0, 1, false, 1, 5, 5) = 1",
                "breaks(0, 0) = NONE", "breaks(0, 1) = NONE", "term(0, 0, false, 1, 5, 6) = 2",
                "breaks(0, 0) = 2", "breaks(0, 1) = NONE", "term(0, 1, true, 1, 5, 5) = 3",
                "breaks(0, 0) = 2", "breaks(0, 1) = 3", "term(0, 0, true, 1, 5, 5) = 4",
                "breaks(0, 0) = 2", "breaks(0, 1) = 3", "strike(0) = 4", "strike(0) = 3",
                "breaks(0, 1) = NONE", "strike(0) = 2", "breaks(0, 0) = NONE");
        settled("22 the last and the first").play(
                "term(0, 0, false, 1, 3, 3) = 0", "term(0, 0, true, 1, 3, 3) = 1",
                "breaks(0, 0) = 1", "strike(0) = 1", "term(0, 0, true, 2, 3, 4) = 1",
                "term(0, 0, true, 2, 3, 4) = 2", "term(0, 0, true, 1, 3, 4) = 3",
                "term(0, 0, true, 2, 0, 23) = 4", "breaks(0, 0) = 3");
    }

    private static void log() {
        settled("23 log").play(
                "log(2, 0, 0, 0) = NUMBER", "log(-1, 0, 0, 0) = NUMBER", "log(0, -1, 0, 0) = NUMBER",
                "log(0, 2, 0, 0) = NUMBER", "log(0, 0, -1, 0) = NUMBER", "log(0, 0, 24, 0) = NUMBER",
                "log(0, 0, 0, -1) = NUMBER", "log(0, 0, 0, 8) = NUMBER", "log(0, 0, MIN, MAX) = NUMBER",
                "log(0, 0, 0, 0) = 7", "log(0, 0, 0, 8) = NUMBER", "log(0, 0, 0, 6) = 0",
                "log(0, 0, 0, 7) = 6", "log(0, 0, 0, 5) = 7", "log(0, 0, 23, 1) = 7",
                "log(0, 1, 0, 2) = 7", "log(1, 0, 0, 3) = 7", "log(0, 0, 0, 5) = 5",
                "log(0, 1, 0, 7) = 2", "log(1, 0, 0, 7) = 3", "log(0, 0, 23, 7) = 1",
                "close(1) = 1", "log(1, 1, 23, 4) = 7", "log(1, 1, 23, 4) = 4");
    }

    private static void judged() {
        settled("24 judged must").play(
                "judged(0, 0) = NUMBER", "judged(-1, 0) = NUMBER", "judged(2, 0) = NUMBER",
                "judged(0, MAX) = NUMBER", "term(0, 0, true, 3, 4, 6) = 0", "judged(0, -1) = NUMBER",
                "judged(0, 1) = NUMBER", "judged(1, 0) = NUMBER", "judged(0, 0) = 2",
                "log(0, 0, 3, 3) = 7", "log(0, 0, 7, 3) = 7", "log(0, 1, 5, 3) = 7",
                "log(1, 0, 5, 3) = 7", "judged(0, 0) = 2", "log(0, 0, 4, 6) = 7",
                "log(0, 0, 5, 2) = 7", "judged(0, 0) = 2", "log(0, 0, 6, 0) = 7", "judged(0, 0) = 0",
                "log(0, 0, 6, 3) = 0", "judged(0, 0) = 1", "log(0, 0, 4, 7) = 6", "judged(0, 0) = 1",
                "log(0, 0, 6, 7) = 3", "judged(0, 0) = 2", "log(0, 0, 4, 3) = 7", "judged(0, 0) = 1");
        settled("24 judged mustn't").play(
                "term(0, 1, false, 3, 22, 23) = 0", "judged(0, 0) = 2", "log(0, 1, 21, 3) = 7",
                "log(0, 0, 23, 3) = 7", "judged(0, 0) = 2", "log(0, 1, 22, 6) = 7",
                "judged(0, 0) = 2", "log(0, 1, 23, 4) = 7", "judged(0, 0) = 1",
                "log(0, 1, 23, 3) = 4", "judged(0, 0) = 0", "log(0, 1, 22, 7) = 6",
                "judged(0, 0) = 0", "log(0, 1, 23, 5) = 3", "judged(0, 0) = 2");
        // Each term by itself: one hour keeps two of them, though a table would need two hours.
        settled("24 judged one by one").play(
                "term(0, 0, true, 3, 4, 4) = 0", "term(0, 0, true, 3, 4, 4) = 1",
                "log(0, 0, 4, 3) = 7", "judged(0, 0) = 1", "judged(0, 1) = 1", "many(8) = 2");
    }

    private static void many() {
        settled("25 many").play(
                "many(-1) = NUMBER", "many(11) = NUMBER", "many(MIN) = NUMBER", "many(MAX) = NUMBER",
                "mediator(3, 3) = 0", "many(0) = 2", "many(1) = 1", "many(2) = 2", "many(3) = 1",
                "many(4) = 1", "many(5) = 0", "many(6) = 2", "many(7) = 0",
                "offer(1, 1, 9) = 0", "offer(1, 0, 9) = 1", "many(3) = 0", "many(4) = 2",
                "term(0, 0, true, 0, 0, 0) = 0", "term(1, 1, false, 0, 0, 0) = 0",
                "term(1, 1, true, 2, 1, 2) = 1", "many(7) = 3", "many(8) = 0", "many(9) = 0",
                "many(10) = 3", "log(0, 0, 0, 0) = 7", "many(8) = 1", "many(10) = 2",
                "log(1, 1, 0, 0) = 7", "many(8) = 1", "many(9) = 1", "many(10) = 1",
                "log(1, 1, 1, 2) = 7", "many(8) = 2", "many(9) = 1", "many(10) = 0",
                "strike(1) = 1", "many(7) = 2", "many(8) = 1", "mark(0, 1) = 1", "many(5) = 1",
                "many(6) = 1", "open(0, 1) = 2", "close(2) = 1", "many(2) = 3", "many(3) = 0",
                "many(4) = 2", "many(6) = 2");
        Script full = new Script("25 many of all that may be").play("party(0, 0) = 0", "party(1, 0) = 1");
        for (int one = 0; one < 6; one++) {
            full.play("open(0, 1) = " + one, "offer(" + one + ", 0, 0) = 0", "offer(" + one + ", 1, 0) = 1");
            for (int term = 0; term < 5; term++) {
                full.play("term(" + one + ", 1, true, " + term + ", 0, 0) = " + term);
            }
        }
        full.play("many(4) = 6", "many(6) = 6", "many(7) = 30", "many(10) = 30", "log(5, 1, 0, 4) = 7",
                "many(8) = 1", "many(9) = 4", "many(10) = 25");
    }
}
