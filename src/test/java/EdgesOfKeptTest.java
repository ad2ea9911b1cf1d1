import java.util.ArrayList;
import java.util.List;

/** Promises 26 and 27, and the 512 calls of an object: a test for each sentence that names an edge. */
public final class EdgesOfKeptTest {
    public static void main(String[] args) {
        nothingIsKept();
        anEmptyHouseIsKept();
        allButRooms();
        theLatest();
        whichStays();
        eachChangeIsTakenBack();
        allChangesAreTakenBack();
        aFullHouseIsKept();
        fromFullBackToEmpty();
        fromEmptyBackToFull();
        whatCameAndWentIsNew();
        theLastCallOfAnObject();
        Script.end();
    }

    private static String[] join(String[] first, String... second) {
        List<String> rows = new ArrayList<>(List.of(first));
        rows.addAll(List.of(second));
        return rows.toArray(new String[0]);
    }

    /** Promise 27: "NONE: nothing is kept". */
    private static void nothingIsKept() {
        new Script("27 nothing is kept").play("back() = NONE", "party(0, 0) = 0", "back() = NONE",
                "many(0) = 1", "kin(0, 0, true) = NUMBER", "back() = NONE", "keep() = 1", "back() = 1",
                "many(0) = 1");
    }

    /** A new object can be kept, and that is not nothing. */
    private static void anEmptyHouseIsKept() {
        new Script("27 an empty house").play("keep() = 1", "party(0, 0) = 0", "party(1, 0) = 1",
                "mediator(5, 7) = 0", "open(0, 1) = 0", "back() = 1", "many(0) = 0", "many(1) = 0",
                "many(2) = 0", "many(3) = 0", "many(6) = 0", "waits() = 0", "of(0, 0) = NUMBER",
                "kin(0, 0, false) = NUMBER", "party(9, 2) = 0", "back() = 1", "many(0) = 0");
    }

    /** Promise 26: "All is kept (but ROOMS)". */
    private static void allButRooms() {
        new Script("26 rooms of before").play("rooms(2) = 1", "keep() = 1", "rooms(1) = 2", "back() = 1",
                "rooms(1) = 1");
        new Script("26 rooms of after").play("keep() = 1", "rooms(2) = 1", "back() = 1", "rooms(2) = 2",
                "keep() = 1", "rooms(2) = 2");
        new Script("26 rooms in the plan").play("party(0, 0) = 0", "party(1, 0) = 1", "mediator(9, 1) = 0",
                "mediator(9, 1) = 1", "mediator(9, 1) = 2", "mediator(9, 1) = 3", "open(0, 1) = 0",
                "open(0, 1) = 1", "waits() = 1", "keep() = 1", "rooms(2) = 1", "waits() = 0", "back() = 1",
                "waits() = 0", "plan(1) = 5");
    }

    /** Promise 27: "what was kept latest". */
    private static void theLatest() {
        new Script("27 the latest").play("party(0, 0) = 0", "keep() = 1", "party(0, 0) = 1", "keep() = 1",
                "party(0, 0) = 2", "back() = 1", "many(0) = 2", "back() = 1", "many(0) = 2",
                "party(1, 1) = 2", "party(1, 1) = 3", "keep() = 1", "back() = 1", "many(0) = 4",
                "keep() = 1", "many(0) = 4");
        new Script("27 less may be kept later").play("keep() = 1", "party(0, 0) = 0", "party(1, 0) = 1",
                "open(0, 1) = 0", "offer(0, 0, 1) = 0", "offer(0, 1, 1) = 1", "term(0, 0, true, 0, 0, 5) = 0",
                "term(0, 0, true, 1, 0, 5) = 1", "keep() = 1", "strike(0) = 1", "keep() = 1", "strike(0) = 0",
                "back() = 1", "many(7) = 1", "termOf(0, 0, 2) = 0", "termOf(0, 1, 2) = NUMBER");
    }

    /** Promise 27: "(which stays)": what comes after the way back does not change it. */
    private static void whichStays() {
        String[] house = join(Houses.middle(), "keep() = 1");
        Twin.unchanged("27 twice back", house, "back() = 1", "back() = 1");
        Twin.unchanged("27 back, changes, back", house, "back() = 1", "offer(0, 1, 99) = 1",
                "close(3) = 1", "strike(1) = 2", "kin(1, 1, true) = 1", "log(1, 0, 8, 5) = 6",
                "weight(0, 9) = 1", "mark(0, 3) = 3", "party(8, 0) = 3", "mediator(8, 1) = 3",
                "open(0, 1) = 4", "back() = 1");
    }

    /** Each call that changes something, by itself: it is kept, and comes back. */
    private static void eachChangeIsTakenBack() {
        String[] house = join(Houses.middle(), "keep() = 1");
        String[] changes = {"party(8, 2) = 3", "mediator(8, 1) = 3", "kin(0, 0, true) = 1",
            "kin(0, 2, false) = 1", "kin(2, 2, true) = 1", "open(0, 1) = 4", "close(0) = 1", "close(3) = 1",
            "weight(0, 9) = 1", "weight(3, 1) = 4", "weight(1, 2) = 1", "weight(2, 1) = 7",
            "mark(0, 3) = 3", "mark(2, 1) = 3", "offer(0, 1, 54) = 2", "offer(0, 1, 55) = 1",
            "offer(3, 0, 8) = 1", "offer(3, 0, 9) = 2", "term(1, 0, false, 4, 0, 3) = 3",
            "term(1, 1, true, 2, 23, 23) = 3", "strike(1) = 2", "log(1, 0, 8, 1) = 6", "log(1, 0, 9, 7) = 1",
            "log(1, 1, 23, 6) = 2", "log(0, 0, 0, 0) = 7", "log(2, 1, 0, 6) = 7", "log(3, 0, 23, 5) = 7"};
        for (String change : changes) {
            Twin.unchanged("27 back after " + change, house, change, "back() = 1");
        }
    }

    private static void allChangesAreTakenBack() {
        Twin.unchanged("27 back after all", join(Houses.middle(), "keep() = 1"), "party(8, 2) = 3",
                "mediator(8, 1) = 3", "kin(0, 3, true) = 1", "kin(3, 0, true) = 1", "kin(0, 2, false) = 1",
                "open(3, 1) = 4", "open(1, 3) = 5", "weight(5, 8) = 1", "mark(5, 0) = 3", "mark(4, 1) = 4",
                "offer(0, 1, 54) = 2", "offer(0, 0, 9) = 0", "offer(0, 1, 54) = 1", "offer(3, 0, 8) = 1",
                "offer(5, 0, 4) = 0", "term(0, 0, true, 5, 23, 23) = 0", "strike(1) = 2", "strike(1) = 1",
                "strike(1) = 0", "term(1, 1, false, 0, 3, 4) = 0", "log(1, 0, 9, 7) = 1",
                "log(5, 1, 4, 3) = 7", "weight(1, 9) = 1", "weight(2, 6) = 7", "close(4) = 1", "back() = 1");
    }

    private static void aFullHouseIsKept() {
        Twin.unchanged("27 a full house", join(Houses.full(), "keep() = 1"), "kin(0, 7, false) = 1",
                "kin(3, 7, true) = 1", "close(0) = 1", "offer(4, 0, 45) = 2", "offer(4, 0, 44) = 0",
                "offer(4, 1, 44) = 1", "strike(1) = 4", "strike(1) = 3", "strike(1) = 2",
                "term(1, 1, true, 4, 4, 4) = 2", "log(1, 0, 6, 7) = 2", "log(1, 1, 23, 7) = 5",
                "weight(0, 5) = 1", "offer(5, 1, 9) = 0", "close(5) = 1", "back() = 1");
    }

    /** After the way back there is room again for as many as may be. */
    private static void fromFullBackToEmpty() {
        String[] again = Houses.full();
        new Script("27 from full back to empty").play("keep() = 1").play(without(Houses.full(), "keep() = 1"))
                .play("party(0, 0) = FULL", "mediator(0, 1) = FULL", "open(0, 1) = FULL", "mark(0, 3) = FULL",
                        "offer(0, 0, 0) = FULL", "term(1, 0, true, 0, 0, 0) = FULL", "back() = 1",
                        "many(0) = 0", "many(1) = 0", "many(2) = 0", "many(5) = 0", "many(7) = 0")
                .play(again)
                .play("party(0, 0) = FULL", "mediator(0, 1) = FULL", "open(0, 1) = FULL", "mark(0, 3) = FULL",
                        "offer(0, 0, 0) = FULL", "term(1, 0, true, 0, 0, 0) = FULL");
    }

    private static void fromEmptyBackToFull() {
        Script script = new Script("27 full is kept over empty").play("keep() = 1")
                .play(without(Houses.full(), "keep() = 1"));
        script.play("keep() = 1", "back() = 1", "many(0) = 8", "many(1) = 4", "many(2) = 6", "many(5) = 6",
                "many(7) = 5", "party(0, 0) = FULL", "mediator(0, 1) = FULL", "open(0, 1) = FULL",
                "mark(0, 3) = FULL", "mark(0, 1) = TWICE", "offer(0, 0, 0) = FULL",
                "term(1, 0, true, 0, 0, 0) = FULL");
    }

    private static String[] without(String[] rows, String left) {
        List<String> kept = new ArrayList<>(List.of(rows));
        kept.remove(left);
        return kept.toArray(new String[0]);
    }

    /** What comes again with a number that another one had has nothing of that one. */
    private static void whatCameAndWentIsNew() {
        String[] comeAgain = {"party(3, 0) = 0", "party(4, 0) = 1", "mediator(5, 7) = 0",
            "mediator(6, 7) = 1", "open(0, 1) = 0", "open(1, 0) = 1"};
        Twin.unchanged("27 who comes again is new", new String[] {"keep() = 1"}, "party(0, 1) = 0",
                "party(1, 2) = 1", "mediator(3, 1) = 0", "mediator(4, 2) = 1", "kin(0, 0, true) = 1",
                "kin(1, 1, true) = 1", "open(1, 0) = 0", "open(0, 1) = 1", "mark(0, 1) = 1",
                "weight(0, 9) = 1", "offer(0, 0, 7) = 0", "offer(0, 1, 6) = 2", "offer(0, 0, 7) = 0",
                "offer(0, 1, 7) = 1", "term(0, 0, true, 1, 1, 1) = 0", "log(0, 0, 1, 1) = 7",
                "log(1, 1, 23, 0) = 7", "offer(1, 0, 3) = 0", "close(1) = 1", "back() = 1");
        Script script = new Script("27 come again").play("keep() = 1", "party(3, 0) = 0", "party(4, 0) = 1",
                "mediator(5, 7) = 0", "mediator(6, 7) = 1", "kin(0, 0, true) = 1", "kin(1, 1, true) = 1",
                "open(0, 1) = 0", "open(1, 0) = 1", "mark(0, 1) = 1", "weight(0, 9) = 1", "weight(1, 9) = 1",
                "offer(0, 0, 7) = 0", "offer(0, 1, 7) = 1", "term(0, 0, true, 1, 1, 1) = 0",
                "log(0, 0, 1, 1) = 7", "log(1, 1, 23, 0) = 7", "offer(1, 0, 3) = 0", "close(1) = 1",
                "back() = 1").play(comeAgain);
        for (int one = 0; one < 2; one++) {
            script.play("of(" + one + ", 2) = 0", "of(" + one + ", 3) = NONE", "of(" + one + ", 4) = 0",
                    "of(" + one + ", 5) = " + one, "of(" + one + ", 6) = 1", "of(" + one + ", 7) = 1",
                    "put(" + one + ", 0) = 0", "put(" + one + ", 1) = 0", "maySit(0, " + one + ") = 1",
                    "learns(" + one + ", 0, 0, true) = NONE", "strike(" + one + ") = NONE",
                    "log(" + one + ", 0, 1, 7) = 7", "log(" + one + ", 1, 23, 7) = 7",
                    "plan(" + one + ") = " + 6 * one);
        }
        script.play("waits() = 1", "kin(0, 0, false) = 0", "kin(1, 1, false) = 0", "mark(1, 0) = 1",
                "many(7) = 0");
    }

    /** "An object is used for at most 512 calls": the 512th is answered like any other. */
    private static void theLastCallOfAnObject() {
        Script keeping = new Script("512 calls of keep and back").play("party(0, 0) = 0");
        while (keeping.left() > 2) {
            keeping.play("keep() = 1", "back() = 1");
        }
        keeping.play("many(0) = 1");
        Script planning = new Script("512 calls of plan").play("party(0, 0) = 0", "party(1, 0) = 1",
                "mediator(9, 1) = 0", "mediator(9, 1) = 1", "mediator(9, 1) = 2", "mediator(9, 1) = 3",
                "open(0, 1) = 0", "open(0, 1) = 1", "open(0, 1) = 2", "open(0, 1) = 3", "rooms(2) = 1");
        while (planning.left() > 1) {
            planning.play("plan(3) = 11");
        }
        planning.play("waits() = 2");
        Script striking = new Script("512 calls of term and strike").play("party(0, 0) = 0",
                "party(1, 0) = 1", "open(0, 1) = 0", "offer(0, 0, 0) = 0", "offer(0, 1, 0) = 1");
        while (striking.left() > 2) {
            striking.play("term(0, 0, true, 0, 0, 23) = 0", "strike(0) = 0");
        }
        striking.play("strike(0) = NONE");
    }
}
