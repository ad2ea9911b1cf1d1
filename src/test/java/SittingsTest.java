/** Promises 13 to 16: who may sit, the rooms and the plan. */
public final class SittingsTest {
    public static void main(String[] args) {
        maySitNumbers();
        maySit();
        pairsAreNumbered();
        rooms();
        plan();
        planOfFour();
        waits();
        Script.end();
    }

    /** Parties 0 to 3 of tongue 0 on floors 0 to 3. */
    private static Script neighbours(String title) {
        return new Script(title).play(
                "party(0, 0) = 0", "party(1, 0) = 1", "party(2, 0) = 2", "party(3, 0) = 3");
    }

    private static void maySitNumbers() {
        neighbours("13 maySit, numbers").play(
                "open(0, 1) = 0", "maySit(0, 0) = NUMBER", "mediator(9, 1) = 0",
                "maySit(0, 0) = NUMBER", "mediator(9, 1) = 1", "maySit(0, 0) = 1",
                "maySit(1, 0) = NUMBER", "maySit(2, 0) = NUMBER", "maySit(3, 0) = NUMBER",
                "maySit(-1, 0) = NUMBER", "maySit(6, 0) = NUMBER", "maySit(0, 1) = NUMBER",
                "maySit(0, -1) = NUMBER", "maySit(MIN, 0) = NUMBER", "maySit(MAX, 0) = NUMBER",
                "maySit(0, MAX) = NUMBER",
                "mediator(9, 1) = 2", "maySit(1, 0) = 1", "maySit(2, 0) = NUMBER", "maySit(3, 0) = 1",
                "maySit(4, 0) = NUMBER", "maySit(5, 0) = NUMBER", "mediator(9, 1) = 3",
                "maySit(2, 0) = 1", "maySit(4, 0) = 1", "maySit(5, 0) = 1", "maySit(6, 0) = NUMBER");
    }

    private static void maySit() {
        new Script("13 maySit").play(
                "party(0, 0) = 0", "party(1, 1) = 1", "party(2, 2) = 2",
                "mediator(9, 1) = 0", "mediator(9, 2) = 1", "mediator(9, 4) = 2",
                "mediator(1, 7) = 3", "open(0, 1) = 0", "open(1, 2) = 1", "open(2, 0) = 2",
                "maySit(0, 0) = 1", "maySit(1, 0) = 0", "maySit(3, 0) = 0",
                "maySit(0, 1) = 0", "maySit(1, 1) = 0", "maySit(3, 1) = 1",
                "maySit(0, 2) = 0", "maySit(1, 2) = 1", "maySit(3, 2) = 0",
                "maySit(2, 0) = 0", "maySit(4, 0) = 0", "maySit(5, 1) = 0", "maySit(2, 2) = 1",
                "maySit(5, 2) = 1", "kin(3, 1, true) = 1", "maySit(5, 2) = 1",
                "kin(3, 0, true) = 1", "maySit(5, 2) = 0", "maySit(2, 2) = 0",
                "kin(2, 2, true) = 1", "maySit(3, 1) = 0", "maySit(1, 2) = 0",
                "close(0) = 1", "maySit(0, 0) = 1");
    }

    /** Mediator m is near party m alone, so what fits tells who sits in a pair. */
    private static void pairsAreNumbered() {
        Script script = neighbours("13 pairs").play("party(8, 0) = 4",
                "mediator(0, 1) = 0", "mediator(1, 1) = 1", "mediator(2, 1) = 2",
                "mediator(3, 1) = 3", "open(0, 4) = 0", "open(1, 4) = 1", "open(4, 2) = 2",
                "open(4, 3) = 3");
        String[] pairs = {"01", "02", "03", "12", "13", "23"};
        for (int pair = 0; pair < 6; pair++) {
            for (int one = 0; one < 4; one++) {
                int fits = pairs[pair].indexOf('0' + one) < 0 ? 1 : 0;
                script.play("maySit(" + pair + ", " + one + ") = " + fits);
            }
        }
    }

    private static void rooms() {
        new Script("14 rooms").play(
                "rooms(0) = NUMBER", "rooms(3) = NUMBER", "rooms(-1) = NUMBER", "rooms(MIN) = NUMBER",
                "rooms(MAX) = NUMBER", "rooms(2) = 1", "rooms(3) = NUMBER", "rooms(2) = 2",
                "rooms(1) = 2", "rooms(1) = 1");
        neighbours("14 rooms in the plan").play(
                "mediator(9, 1) = 0", "mediator(9, 1) = 1", "mediator(9, 1) = 2",
                "open(0, 1) = 0", "open(2, 3) = 1", "rooms(2) = 1", "plan(1) = 6", "waits() = 1",
                "mediator(9, 1) = 3", "plan(0) = 0", "plan(1) = 5", "waits() = 0",
                "rooms(1) = 2", "plan(1) = 6", "waits() = 1");
    }

    private static void plan() {
        neighbours("15 plan").play(
                "plan(0) = NUMBER", "plan(-1) = NUMBER", "open(0, 1) = 0", "plan(0) = NONE",
                "plan(1) = NUMBER", "plan(MAX) = NUMBER", "plan(MIN) = NUMBER",
                "mediator(9, 1) = 0", "plan(0) = NONE", "mediator(9, 2) = 1", "plan(0) = 0",
                "open(2, 3) = 1", "plan(0) = 0", "plan(1) = 6", "open(2, 1) = 2", "plan(2) = 12",
                "open(1, 2) = 3", "plan(3) = NONE", "weight(3, 2) = 1",
                "plan(0) = 6", "plan(1) = 12", "plan(2) = NONE", "plan(3) = 0", "waits() = 7",
                "kin(0, 3, true) = 1", "plan(1) = NONE", "plan(0) = 6", "plan(2) = 12",
                "plan(3) = 0", "close(3) = 1", "plan(3) = STATE", "plan(0) = 0", "plan(2) = 6",
                "offer(0, 0, 1) = 0", "plan(0) = 0", "offer(0, 1, 1) = 1", "plan(0) = STATE",
                "plan(2) = 0");
        // The heavier one sits earlier, though its number is the greater one.
        neighbours("15 plan by weight").play(
                "mediator(9, 1) = 0", "mediator(9, 1) = 1", "open(0, 1) = 0", "open(2, 3) = 1",
                "weight(1, 2) = 1", "plan(0) = 6", "plan(1) = 0", "weight(0, 2) = 1", "plan(0) = 0",
                "plan(1) = 6");
        // The first case would take pair 0; pair 1 leaves pair 4 to the second one the same day.
        neighbours("15 plan makes way").play(
                "mediator(9, 1) = 0", "mediator(9, 1) = 1", "mediator(9, 1) = 2", "mediator(9, 1) = 3",
                "rooms(2) = 1", "open(0, 1) = 0", "open(2, 3) = 1", "kin(2, 2, true) = 1",
                "kin(0, 2, true) = 1", "plan(0) = 1", "plan(1) = 4", "waits() = 0");
        new Script("15 a mediator once a day").play(
                "party(0, 0) = 0", "party(1, 1) = 1", "party(2, 2) = 2", "mediator(9, 1) = 0",
                "mediator(9, 6) = 1", "mediator(9, 4) = 2", "mediator(9, 2) = 3", "rooms(2) = 1",
                "open(0, 1) = 0", "open(2, 0) = 1", "plan(0) = 0", "plan(1) = 6", "waits() = 1");
    }

    private static void planOfFour() {
        neighbours("15 more than four").play(
                "mediator(9, 1) = 0", "mediator(9, 1) = 1", "mediator(9, 1) = 2", "mediator(9, 1) = 3",
                "rooms(2) = 1", "open(0, 1) = 0", "open(0, 1) = 1", "open(0, 1) = 2", "open(0, 1) = 3",
                "open(0, 1) = 4", "open(0, 1) = 5", "weight(4, 9) = 1", "weight(5, 9) = 1",
                "plan(0) = 0", "plan(1) = 5", "plan(2) = 6", "plan(3) = 11", "plan(4) = NONE",
                "plan(5) = NONE", "waits() = 2", "close(1) = 1", "plan(0) = 0", "plan(2) = 6",
                "plan(3) = 11", "plan(4) = 5", "plan(5) = NONE", "waits() = 2",
                "close(0) = 1", "plan(2) = 6", "plan(3) = 11", "plan(4) = 0", "plan(5) = 5",
                "close(5) = 1", "plan(5) = STATE", "plan(2) = 0", "plan(4) = 5", "plan(3) = 6");
    }

    private static void waits() {
        neighbours("16 waits").play(
                "waits() = 0", "open(0, 1) = 0", "waits() = 4", "weight(0, 9) = 1", "waits() = 36",
                "open(1, 2) = 1", "waits() = 40", "mediator(9, 1) = 0", "waits() = 40",
                "mediator(9, 1) = 1", "waits() = 1", "open(2, 3) = 2", "waits() = 3",
                "weight(2, 9) = 1", "waits() = 11", "open(3, 0) = 3", "weight(3, 9) = 1",
                "waits() = 31", "open(0, 2) = 4", "waits() = 31", "close(0) = 1", "waits() = 15",
                "offer(2, 1, 3) = 0", "offer(2, 0, 3) = 1", "waits() = 3",
                "kin(1, 0, true) = 1", "waits() = 40");
    }
}
