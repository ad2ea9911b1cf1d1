/** Promises 1 to 9: a new object, and who there is. */
public final class WhoTest {
    public static void main(String[] args) {
        aNewObject();
        party();
        mediator();
        kin();
        open();
        close();
        weight();
        mark();
        of();
        Script.end();
    }

    private static void aNewObject() {
        Script script = new Script("1 new object");
        for (int what = 0; what <= 10; what++) {
            script.play("many(" + what + ") = 0");
        }
        script.play("waits() = 0", "rooms(1) = 1", "back() = NONE",
                "kin(0, 0, true) = NUMBER", "open(0, 1) = NUMBER", "close(0) = NUMBER",
                "weight(0, 1) = NUMBER", "mark(0, 1) = NUMBER", "of(0, 0) = NUMBER",
                "maySit(0, 0) = NUMBER", "plan(0) = NUMBER", "breaks(0, 0) = NUMBER",
                "termOf(0, 0, 0) = NUMBER",
                "party(0, 0) = 0", "mediator(0, 1) = 0");
        new Script("1 keep of a new object").play("keep() = 1", "party(0, 0) = 0", "back() = 1",
                "many(0) = 0", "party(9, 2) = 0");
    }

    private static void party() {
        Script script = new Script("2 party").play(
                "party(-1, 0) = NUMBER", "party(10, 0) = NUMBER", "party(0, -1) = NUMBER",
                "party(0, 3) = NUMBER", "party(MIN, 0) = NUMBER", "party(0, MAX) = NUMBER",
                "many(0) = 0");
        for (int i = 0; i < 8; i++) {
            script.play("party(" + (i == 0 ? 0 : 9) + ", " + i % 3 + ") = " + i);
        }
        script.play("party(0, 0) = FULL", "party(10, 0) = NUMBER", "party(0, 3) = NUMBER",
                "many(0) = 8", "open(7, 0) = 0", "of(0, 0) = 7", "open(8, 0) = NUMBER");
    }

    private static void mediator() {
        new Script("3 mediator").play(
                "mediator(-1, 1) = NUMBER", "mediator(10, 1) = NUMBER", "mediator(0, 0) = NUMBER",
                "mediator(0, 8) = NUMBER", "mediator(0, -1) = NUMBER", "mediator(MAX, 1) = NUMBER",
                "mediator(0, MIN) = NUMBER", "many(1) = 0",
                "mediator(0, 1) = 0", "mediator(9, 7) = 1", "mediator(9, 7) = 2",
                "mediator(9, 4) = 3", "mediator(9, 4) = FULL", "mediator(10, 4) = NUMBER",
                "mediator(9, 0) = NUMBER", "many(1) = 4");
    }

    private static void kin() {
        new Script("4 kin").play(
                "party(0, 0) = 0", "party(1, 0) = 1", "mediator(5, 7) = 0", "mediator(6, 7) = 1",
                "open(0, 1) = 0",
                "kin(0, 0, false) = 0", "kin(0, 0, true) = 1", "kin(0, 0, true) = 0",
                "maySit(0, 0) = 0", "kin(0, 1, false) = 0", "kin(1, 0, false) = 0",
                "maySit(0, 0) = 0", "kin(0, 0, false) = 1", "maySit(0, 0) = 1",
                "kin(0, 0, false) = 0", "kin(1, 1, true) = 1", "kin(0, 1, true) = 1",
                "kin(1, 1, false) = 1", "maySit(0, 0) = 0", "kin(0, 1, false) = 1",
                "maySit(0, 0) = 1",
                "kin(-1, 0, true) = NUMBER", "kin(2, 0, true) = NUMBER",
                "kin(0, -1, true) = NUMBER", "kin(0, 2, true) = NUMBER",
                "kin(MIN, 0, false) = NUMBER", "kin(0, MAX, false) = NUMBER", "kin(0, 32, true) = NUMBER",
                "maySit(0, 0) = 1");
        new Script("4 kin to all").play(
                "party(0, 0) = 0", "party(0, 0) = 1", "party(0, 0) = 2", "party(0, 0) = 3",
                "party(0, 0) = 4", "party(0, 0) = 5", "party(0, 0) = 6", "party(0, 0) = 7",
                "mediator(1, 1) = 0", "mediator(1, 1) = 1", "kin(0, 7, true) = 1", "open(6, 5) = 0",
                "open(7, 5) = 1", "open(5, 7) = 2", "maySit(0, 0) = 1", "maySit(0, 1) = 0",
                "maySit(0, 2) = 0");
    }

    private static void open() {
        Script script = new Script("5 open").play(
                "party(0, 0) = 0", "open(0, 0) = NUMBER", "open(0, 1) = NUMBER",
                "party(0, 0) = 1", "open(1, 1) = NUMBER", "open(-1, 0) = NUMBER",
                "open(0, -1) = NUMBER", "open(2, 0) = NUMBER", "open(0, 2) = NUMBER",
                "open(MIN, MAX) = NUMBER", "many(2) = 0");
        for (int i = 0; i < 6; i++) {
            script.play("open(" + i % 2 + ", " + (1 - i % 2) + ") = " + i,
                    "of(" + i + ", 0) = " + i % 2, "of(" + i + ", 1) = " + (1 - i % 2));
        }
        script.play("open(0, 1) = FULL", "open(0, 0) = NUMBER", "open(0, 2) = NUMBER",
                "many(2) = 6", "close(5) = 1", "open(0, 1) = FULL", "many(2) = 6", "many(3) = 5");
    }

    private static void close() {
        new Script("6 close").play(
                "party(0, 0) = 0", "party(1, 0) = 1", "close(0) = NUMBER", "open(0, 1) = 0",
                "open(1, 0) = 1", "close(-1) = NUMBER", "close(2) = NUMBER", "close(MAX) = NUMBER",
                "close(0) = 1", "of(0, 2) = 2", "of(1, 2) = 0", "close(0) = STATE", "many(3) = 1",
                "many(4) = 0", "offer(0, 0, 5) = STATE", "term(0, 0, true, 0, 0, 0) = STATE",
                "of(0, 3) = NONE",
                "offer(1, 0, 5) = 0", "offer(1, 1, 5) = 1", "close(1) = STATE", "of(1, 2) = 1",
                "open(0, 1) = 2", "offer(2, 1, 7) = 0", "close(2) = 1", "put(2, 1) = 1",
                "put(2, 0) = 0", "of(2, 4) = 0");
    }

    private static void weight() {
        new Script("7 weight").play(
                "weight(0, 1) = NUMBER", "party(0, 0) = 0", "party(1, 0) = 1", "open(0, 1) = 0",
                "open(0, 1) = 1", "of(0, 7) = 1", "weight(0, 9) = 1", "of(0, 7) = 9",
                "of(1, 7) = 1", "weight(0, 0) = NUMBER", "weight(0, 10) = NUMBER",
                "weight(0, MIN) = NUMBER", "weight(2, 5) = NUMBER", "weight(-1, 5) = NUMBER",
                "of(0, 7) = 9", "weight(0, 1) = 9", "weight(0, 1) = 1", "close(0) = 1",
                "weight(0, 3) = 1", "of(0, 7) = 3", "waits() = 4", "weight(1, 9) = 1",
                "waits() = 36");
    }

    private static void mark() {
        new Script("8 mark").play(
                "party(0, 0) = 0", "party(1, 0) = 1", "mark(0, 1) = NUMBER",
                "open(0, 1) = 0", "open(0, 1) = 1", "open(0, 1) = 2", "open(0, 1) = 3",
                "mark(0, 0) = NUMBER", "mark(-1, 0) = NUMBER", "mark(0, -1) = NUMBER",
                "mark(4, 0) = NUMBER", "mark(0, 4) = NUMBER", "mark(MAX, MIN) = NUMBER",
                "mark(0, 32) = NUMBER", "many(5) = 0",
                "mark(2, 3) = 1", "mark(3, 2) = TWICE", "mark(2, 3) = TWICE", "many(5) = 1",
                "mark(0, 2) = 2", "mark(0, 3) = 3", "mark(0, 1) = 4", "mark(1, 2) = 5",
                "mark(3, 1) = 6", "mark(1, 3) = TWICE", "mark(0, 0) = NUMBER",
                "open(1, 0) = 4", "mark(4, 0) = FULL", "mark(0, 4) = FULL", "mark(4, 4) = NUMBER",
                "mark(4, 5) = NUMBER", "many(5) = 6", "of(4, 5) = 4", "of(4, 6) = 1", "many(6) = 2");
        new Script("8 mark of cases that are over").play(
                "party(0, 0) = 0", "party(1, 0) = 1", "open(0, 1) = 0", "open(0, 1) = 1",
                "close(0) = 1", "offer(1, 0, 1) = 0", "offer(1, 1, 1) = 1", "mark(1, 0) = 1",
                "of(1, 5) = 0");
    }

    private static void of() {
        Script script = new Script("9 of").play(
                "party(0, 0) = 0", "party(1, 0) = 1", "party(2, 0) = 2");
        for (int i = 0; i < 6; i++) {
            script.play("open(2, 1) = " + i, "of(" + i + ", 5) = " + i, "of(" + i + ", 6) = 1");
        }
        script.play("of(0, 0) = 2", "of(0, 1) = 1", "of(0, 2) = 0", "of(0, 3) = NONE", "of(0, 4) = 0",
                "of(0, 7) = 1", "of(0, -1) = NUMBER", "of(0, 8) = NUMBER", "of(0, MIN) = NUMBER",
                "of(6, 0) = NUMBER", "of(-1, 0) = NUMBER", "of(MAX, 3) = NUMBER", "of(6, 9) = NUMBER",
                "mark(5, 4) = 1", "of(5, 5) = 4", "of(4, 5) = 4", "of(5, 6) = 2", "many(6) = 5",
                "mark(3, 2) = 2", "mark(2, 5) = 3", "of(3, 5) = 2", "of(4, 5) = 2", "of(5, 5) = 2",
                "of(4, 6) = 4", "of(0, 5) = 0", "of(0, 6) = 1", "many(6) = 3",
                "mark(4, 0) = 4", "of(3, 5) = 0", "of(3, 6) = 5", "of(1, 5) = 1", "many(6) = 2",
                "close(0) = 1", "of(3, 5) = 0", "of(3, 6) = 5",
                "offer(1, 0, 3) = 0", "of(1, 4) = 0", "of(1, 3) = NONE", "offer(1, 1, 6) = 1",
                "of(1, 2) = 1", "of(1, 3) = 4", "of(1, 4) = 1", "of(0, 2) = 2", "of(0, 3) = NONE");
        new Script("9 a long chain").play(
                "party(0, 0) = 0", "party(1, 0) = 1", "open(0, 1) = 0", "open(0, 1) = 1",
                "open(0, 1) = 2", "open(0, 1) = 3", "open(0, 1) = 4", "open(0, 1) = 5",
                "mark(0, 5) = 1", "mark(5, 1) = 2", "mark(1, 4) = 3", "mark(4, 2) = 4",
                "mark(2, 3) = 5", "of(3, 5) = 0", "of(3, 6) = 6", "of(0, 6) = 6", "many(6) = 1");
    }
}
