import java.util.ArrayList;
import java.util.List;

/**
 * "A call that is refused changes nothing": plays a house on two objects, the refused calls on one
 * of them alone, and asks both for everything, also after a way back and when things go on.
 */
final class Twin {
    private static final List<List<String>> QUESTIONS = questions();

    private Twin() {
    }

    static void unchanged(String title, String[] house, String... refused) {
        for (List<String> questions : QUESTIONS) {
            Script with = new Script(title).play(house).play(refused);
            Script without = new Script(title).play(house);
            for (String question : questions) {
                Script.due(title + ", refused " + String.join("; ", refused) + ", and then", question,
                        with.answer(question), without.answer(question));
            }
        }
    }

    private static List<List<String>> questions() {
        List<List<String>> all = new ArrayList<>();
        for (boolean back : new boolean[] {false, true}) {
            all.add(started(back, whoAndPlan()));
            all.add(started(back, terms()));
            all.add(started(back, boxes()));
            all.add(started(back, logs(0, 3)));
            all.add(started(back, logs(3, 6)));
            all.add(started(back, goingOn()));
        }
        return all;
    }

    private static List<String> started(boolean back, List<String> questions) {
        if (back) {
            questions.add(0, "back()");
        }
        return questions;
    }

    private static List<String> whoAndPlan() {
        List<String> rows = new ArrayList<>();
        for (int what = 0; what <= 10; what++) {
            rows.add("many(" + what + ")");
        }
        rows.add("waits()");
        for (int one = 0; one < 6; one++) {
            rows.add("plan(" + one + ")");
            for (int what = 0; what < 8; what++) {
                rows.add("of(" + one + ", " + what + ")");
            }
            for (int pair = 0; pair < 6; pair++) {
                rows.add("maySit(" + pair + ", " + one + ")");
            }
        }
        for (int mediator = 0; mediator < 4; mediator++) {
            for (int party = 0; party < 8; party++) {
                rows.add("kin(" + mediator + ", " + party + ", true)");
            }
        }
        rows.add("rooms(1)");
        return rows;
    }

    private static List<String> terms() {
        List<String> rows = new ArrayList<>();
        for (int one = 0; one < 6; one++) {
            for (int side = 0; side < 2; side++) {
                rows.add("canHold(" + one + ", " + side + ")");
                rows.add("breaks(" + one + ", " + side + ")");
            }
            for (int term = 0; term < 5; term++) {
                rows.add("hour(" + one + ", " + term + ")");
                rows.add("judged(" + one + ", " + term + ")");
                for (int what = 0; what < 5; what++) {
                    rows.add("termOf(" + one + ", " + term + ", " + what + ")");
                }
            }
        }
        return rows;
    }

    /** The number in a box is seen only when the other side's comes to it. */
    private static List<String> boxes() {
        List<String> rows = new ArrayList<>();
        for (int one = 0; one < 6; one++) {
            rows.add("put(" + one + ", 0)");
            rows.add("put(" + one + ", 1)");
            rows.addAll(learnt(one));
        }
        for (int one = 0; one < 6; one++) {
            rows.add("offer(" + one + ", 0, 0)");
            rows.add("offer(" + one + ", 1, 100)");
            rows.add("of(" + one + ", 3)");
            rows.addAll(learnt(one));
        }
        return rows;
    }

    private static List<String> learnt(int one) {
        List<String> rows = new ArrayList<>();
        for (int side = 0; side < 2; side++) {
            for (int round = 0; round < 5; round++) {
                rows.add("learns(" + one + ", " + side + ", " + round + ", false)");
                rows.add("learns(" + one + ", " + side + ", " + round + ", true)");
            }
        }
        return rows;
    }

    private static List<String> logs(int first, int end) {
        List<String> rows = new ArrayList<>();
        for (int one = first; one < end; one++) {
            for (int side = 0; side < 2; side++) {
                for (int hour = 0; hour < 24; hour++) {
                    rows.add("log(" + one + ", " + side + ", " + hour + ", 7)");
                }
            }
        }
        return rows;
    }

    /** Who comes next, and what the floors and tongues of everybody do to new cases. */
    private static List<String> goingOn() {
        List<String> rows = new ArrayList<>(List.of("strike(0)", "strike(1)", "strike(1)",
                "term(1, 0, true, 3, 4, 5)", "party(9, 1)", "party(3, 2)", "mediator(4, 7)",
                "mediator(8, 5)", "open(0, 2)", "open(1, 3)", "open(4, 5)", "open(7, 6)", "mark(0, 3)",
                "mark(2, 4)", "mark(1, 5)", "many(5)", "many(6)", "many(7)", "waits()"));
        for (int one = 0; one < 6; one++) {
            rows.add("plan(" + one + ")");
            for (int pair = 0; pair < 6; pair++) {
                rows.add("maySit(" + pair + ", " + one + ")");
            }
        }
        rows.add("keep()");
        rows.add("party(0, 0)");
        rows.add("back()");
        rows.add("many(0)");
        return rows;
    }
}
