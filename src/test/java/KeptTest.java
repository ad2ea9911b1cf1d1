/** Promises 26 and 27: all but the rooms is kept, and comes back as often as asked. */
public final class KeptTest {
    public static void main(String[] args) {
        keepAndBack();
        roomsAreNotKept();
        everythingComesBack();
        rowsAreCleanAfterTheWayBack();
        asManyAsMayBe();
        Script.end();
    }

    private static void keepAndBack() {
        new Script("26 and 27").play(
                "back() = NONE", "party(1, 1) = 0", "back() = NONE", "many(0) = 1", "keep() = 1",
                "party(2, 2) = 1", "back() = 1", "many(0) = 1", "party(3, 0) = 1", "back() = 1",
                "many(0) = 1", "back() = 1", "party(3, 0) = 1", "keep() = 1", "party(4, 0) = 2",
                "back() = 1", "many(0) = 2", "keep() = 1", "keep() = 1", "back() = 1", "many(0) = 2");
    }

    private static void roomsAreNotKept() {
        new Script("26 rooms are not kept").play(
                "keep() = 1", "rooms(2) = 1", "back() = 1", "rooms(2) = 2", "keep() = 1",
                "rooms(1) = 2", "back() = 1", "rooms(1) = 1");
    }

    private static void everythingComesBack() {
        new Script("27 everything").play(
                "party(0, 0) = 0", "party(1, 1) = 1", "mediator(5, 7) = 0", "mediator(6, 7) = 1",
                "kin(1, 1, true) = 1", "open(0, 1) = 0", "open(1, 0) = 1", "open(0, 1) = 2",
                "weight(1, 5) = 1", "mark(1, 2) = 1", "offer(0, 0, 9) = 0", "offer(0, 1, 4) = 2",
                "offer(0, 0, 7) = 0", "offer(1, 0, 2) = 0", "offer(1, 1, 8) = 1",
                "term(1, 0, true, 2, 3, 5) = 0", "term(1, 1, false, 1, 0, 23) = 1",
                "log(1, 0, 3, 2) = 7", "keep() = 1",
                // all of it is changed
                "kin(1, 1, false) = 1", "kin(0, 0, true) = 1", "weight(1, 6) = 5", "mark(0, 1) = 2",
                "offer(0, 1, 1) = 2", "close(0) = 1", "strike(1) = 1", "strike(1) = 0",
                "term(1, 1, false, 5, 6, 7) = 0", "log(1, 0, 3, 6) = 2", "log(0, 1, 4, 4) = 7",
                "offer(2, 0, 1) = 0", "offer(2, 1, 1) = 1", "term(2, 0, true, 0, 0, 0) = 0",
                "open(1, 0) = 3", "mediator(7, 1) = 2", "back() = 1",
                // and is as it was
                "many(1) = 2", "many(2) = 3", "many(3) = 2", "many(5) = 1", "many(7) = 2",
                "many(8) = 1", "kin(1, 1, true) = 0", "kin(0, 0, false) = 0", "of(1, 7) = 5",
                "mark(2, 1) = TWICE", "of(0, 5) = 0", "of(2, 5) = 1", "of(0, 2) = 0", "of(0, 4) = 1",
                "put(0, 0) = 1", "put(0, 1) = 0", "put(2, 0) = 0", "of(2, 2) = 0", "of(1, 3) = 5",
                "learns(0, 0, 0, true) = 8", "learns(0, 1, 0, false) = 5",
                "learns(0, 0, 1, true) = NONE", "learns(1, 0, 0, true) = 9",
                "termOf(1, 0, 0) = 0", "termOf(1, 0, 1) = 1", "termOf(1, 0, 2) = 2",
                "termOf(1, 0, 3) = 3", "termOf(1, 0, 4) = 5", "termOf(1, 1, 1) = 0",
                "judged(1, 0) = 1", "judged(1, 1) = 2", "log(1, 0, 3, 2) = 2", "log(0, 1, 4, 7) = 7",
                "offer(0, 1, 7) = 1", "of(0, 3) = 7",
                // what is kept is not changed by what comes after the way back
                "back() = 1", "of(0, 2) = 0", "put(0, 1) = 0", "offer(0, 1, 6) = 2",
                "learns(0, 1, 1, false) = 7");
    }

    /** What comes anew after the way back has nothing of what had its number before. */
    private static void rowsAreCleanAfterTheWayBack() {
        new Script("27 new rows").play(
                "party(0, 0) = 0", "party(1, 0) = 1", "keep() = 1", "mediator(5, 7) = 0",
                "mediator(6, 7) = 1", "kin(0, 0, true) = 1", "open(0, 1) = 0", "open(0, 1) = 1",
                "mark(0, 1) = 1", "weight(0, 9) = 1", "offer(0, 0, 5) = 0", "offer(0, 1, 5) = 1",
                "term(0, 0, true, 1, 1, 1) = 0", "log(0, 0, 1, 1) = 7", "offer(1, 0, 3) = 0",
                "back() = 1", "many(1) = 0", "many(2) = 0", "many(5) = 0", "many(7) = 0",
                "mediator(5, 7) = 0", "mediator(6, 7) = 1", "open(0, 1) = 0", "open(1, 0) = 1",
                "maySit(0, 0) = 1", "of(0, 0) = 0", "of(1, 0) = 1", "of(0, 2) = 0", "of(0, 3) = NONE",
                "of(0, 4) = 0", "of(0, 6) = 1", "of(0, 7) = 1", "put(0, 0) = 0", "put(1, 0) = 0",
                "learns(0, 0, 0, true) = NONE", "termOf(0, 0, 0) = NUMBER", "strike(0) = NONE",
                "log(0, 0, 1, 1) = 7", "kin(0, 0, true) = 1");
    }

    private static void asManyAsMayBe() {
        Script script = new Script("27 as many as may be");
        for (int i = 0; i < 8; i++) {
            script.play("party(" + i + ", " + i % 3 + ") = " + i);
        }
        for (int i = 0; i < 4; i++) {
            script.play("mediator(9, 7) = " + i, "kin(" + i + ", 7, true) = 1");
        }
        for (int i = 0; i < 6; i++) {
            script.play("open(" + i + ", " + (i + 1) + ") = " + i);
        }
        for (int i = 0; i < 6; i++) {
            script.play("mark(" + i + ", " + (i + 1) % 6 + ") = " + (i + 1), "offer(" + i + ", 0, 9) = 0",
                    "offer(" + i + ", 1, " + (i == 5 ? 9 : i) + ") = " + (i == 5 ? 1 : 2));
        }
        for (int i = 0; i < 4; i++) {
            script.play("offer(4, 0, " + (20 + i) + ") = 0", "offer(4, 1, " + i + ") = 2",
                    "term(5, 0, true, 1, 5, " + (6 + i) + ") = " + i);
        }
        script.play("term(5, 1, false, 2, 0, 23) = 4", "log(5, 1, 23, 2) = 7", "keep() = 1",
                "strike(5) = 4", "strike(5) = 3", "term(5, 0, false, 1, 5, 5) = 3", "close(4) = 1",
                "kin(3, 7, false) = 1", "log(5, 1, 23, 6) = 2", "hour(5, 0) = 6", "back() = 1",
                "many(0) = 8", "many(1) = 4", "many(2) = 6", "many(3) = 5", "many(4) = 1",
                "many(5) = 6", "many(6) = 1", "many(7) = 5", "many(9) = 1", "kin(3, 7, true) = 0",
                "of(4, 2) = 0", "of(4, 4) = 5", "offer(4, 0, 1) = FULL", "hour(5, 0) = 5",
                "hour(5, 3) = 8", "judged(5, 4) = 0", "party(0, 0) = FULL", "mediator(0, 1) = FULL",
                "open(0, 1) = FULL", "mark(0, 2) = FULL", "term(5, 0, true, 1, 1, 1) = FULL");
        for (int i = 0; i < 4; i++) {
            script.play("learns(4, 0, " + (i + 1) + ", true) = " + (19 + i),
                    "learns(4, 1, " + (i + 1) + ", false) = " + (i + 1));
        }
    }
}
