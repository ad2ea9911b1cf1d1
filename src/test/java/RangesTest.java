import java.util.ArrayList;
import java.util.Arrays;
import java.util.List;
import java.util.TreeSet;

/**
 * Between which numbers each number of each call lies: the least and the greatest that may be, the
 * one below and the one above, and numbers far outside. A row names the call with # for the number.
 */
public final class RangesTest {
    private static final int[] FAR = {Integer.MIN_VALUE, Integer.MIN_VALUE + 1, -65536, -256, -32,
        -2, -1, 255, 256, 65536, Integer.MAX_VALUE - 1, Integer.MAX_VALUE};

    public static void main(String[] args) {
        who();
        countsOfWho();
        cases();
        box();
        sittings();
        termNumbers();
        termHours();
        logAndMany();
        Script.end();
    }

    private static void who() {
        range("2 party, floor 0 to 9", Houses.empty(), "party(#, 0)", 0, 9, "NUMBER");
        range("2 party, tongue 0 to 2", Houses.empty(), "party(0, #)", 0, 2, "NUMBER");
        range("3 mediator, floor 0 to 9", Houses.empty(), "mediator(#, 1)", 0, 9, "NUMBER");
        range("3 mediator, tongues 1 to 7", Houses.empty(), "mediator(0, #)", 1, 7, "NUMBER");
        range("14 rooms, 1 to 2", Houses.empty(), "rooms(#)", 1, 2, "NUMBER");
    }

    /** With none, one, more and as many as may be: only those that have come may be named. */
    private static void countsOfWho() {
        for (int count = 0; count <= 8; count++) {
            String[] house = rows(count, Math.min(count, 4), 0);
            String with = count + " parties and " + Math.min(count, 4) + " mediators";
            if (count > 0) {
                range("4 kin, " + with, house, "kin(#, 0, true)", 0, Math.min(count, 4) - 1, "NUMBER");
                range("4 kin, " + with, house, "kin(0, #, true)", 0, count - 1, "NUMBER");
                range("4 kin, " + with, house, "kin(#, 0, false)", 0, Math.min(count, 4) - 1, "NUMBER");
            }
            range("5 open, asks, " + with, house, "open(#, 0)", 1, count - 1, "NUMBER");
            range("5 open, gives, " + with, house, "open(0, #)", 1, count - 1, "NUMBER");
        }
        range("5 open, asks, up to the last", rows(8, 0, 0), "open(#, 7)", 0, 6, "NUMBER");
        range("5 open, gives, up to the last", rows(8, 0, 0), "open(7, #)", 0, 6, "NUMBER");
    }

    private static void cases() {
        for (int count = 0; count <= 6; count++) {
            String[] house = rows(2, 2, count);
            String with = ", " + count + " cases";
            range("6 close" + with, house, "close(#)", 0, count - 1, "NUMBER");
            range("7 weight" + with, house, "weight(#, 5)", 0, count - 1, "NUMBER");
            range("8 mark" + with, house, "mark(#, 0)", 1, count - 1, "NUMBER");
            range("8 mark" + with, house, "mark(0, #)", 1, count - 1, "NUMBER");
            range("9 of" + with, house, "of(#, 0)", 0, count - 1, "NUMBER");
            range("10 offer" + with, house, "offer(#, 0, 0)", 0, count - 1, "NUMBER");
            range("11 put" + with, house, "put(#, 0)", 0, count - 1, "NUMBER");
            range("13 maySit" + with, house, "maySit(0, #)", 0, count - 1, "NUMBER");
            range("21 canHold" + with, house, "canHold(#, 1)", 0, count - 1, "NUMBER");
            range("23 log" + with, house, "log(#, 0, 0, 0)", 0, count - 1, "NUMBER");
        }
        String[] twoRooms = {"rooms(2) = 1"};
        for (int count = 0; count <= 4; count++) {
            range("15 plan, " + count + " cases", join(rows(2, 4, count), twoRooms), "plan(#)", 0,
                    count - 1, "NUMBER");
        }
        range("8 mark, up to the last", rows(2, 0, 6), "mark(#, 5)", 0, 4, "NUMBER");
        range("8 mark, up to the last", rows(2, 0, 6), "mark(5, #)", 0, 4, "NUMBER");
        range("7 weight, 1 to 9", rows(2, 0, 1), "weight(0, #)", 1, 9, "NUMBER");
        range("9 of, what 0 to 7", settled(1), "of(0, #)", 0, 7, "NUMBER");
    }

    private static void box() {
        range("10 offer, side 0 to 1", rows(2, 0, 1), "offer(0, #, 0)", 0, 1, "NUMBER");
        range("10 offer, number 0 to 100", rows(2, 0, 1), "offer(0, 0, #)", 0, 100, "NUMBER");
        range("10 offer, number 0 to 100", rows(2, 0, 1), "offer(0, 1, #)", 0, 100, "NUMBER");
        range("11 put, side 0 to 1", rows(2, 0, 1), "put(0, #)", 0, 1, "NUMBER");
        range("12 learns, case", settled(6), "learns(#, 0, 0, true)", 0, 5, "NUMBER");
        range("12 learns, side 0 to 1", settled(1), "learns(0, #, 0, false)", 0, 1, "NUMBER");
        for (int rounds = 0; rounds <= 5; rounds++) {
            List<String> house = new ArrayList<>(List.of(rows(2, 0, 1)));
            for (int i = 0; i < rounds; i++) {
                house.add("offer(0, 0, 50) = 0");
                house.add("offer(0, 1, 49) = 2");
            }
            String[] row = house.toArray(new String[0]);
            range("12 learns, " + rounds + " rounds", row, "learns(0, 0, #, true)", 0, rounds - 1, "NONE");
            range("12 learns, " + rounds + " rounds", row, "learns(0, 1, #, false)", 0, rounds - 1, "NONE");
        }
    }

    private static void sittings() {
        int[] withTwo = {0};
        int[] withThree = {0, 1, 3};
        int[] withFour = {0, 1, 2, 3, 4, 5};
        int[][] pairs = {{}, {}, withTwo, withThree, withFour};
        for (int count = 0; count <= 4; count++) {
            Script script = new Script("13 maySit, pairs of " + count).play(rows(2, count, 1));
            for (int pair = -3; pair <= 9; pair++) {
                int asked = pair;
                boolean is = Arrays.stream(pairs[count]).anyMatch(p -> p == asked);
                script.play("maySit(" + pair + ", 0) = " + (is ? "1" : "NUMBER"));
            }
        }
        range("13 maySit, pair 0 to 5", rows(2, 4, 1), "maySit(#, 0)", 0, 5, "NUMBER");
        range("13 maySit, pair of two mediators", rows(2, 2, 1), "maySit(#, 0)", 0, 0, "NUMBER");
    }

    private static void termNumbers() {
        for (int count = 1; count <= 6; count++) {
            range("17 term, case", settled(count), "term(#, 0, true, 0, 0, 0)", 0, count - 1, "NUMBER");
            range("18 strike, case", terms(count, 1), "strike(#)", 0, count - 1, "NUMBER");
            range("19 termOf, case", terms(count, 1), "termOf(#, 0, 0)", 0, count - 1, "NUMBER");
            range("20 hour, case", terms(count, 1), "hour(#, 0)", 0, count - 1, "NUMBER");
            range("22 breaks, case", terms(count, 2), "breaks(#, 0)", 0, count - 1, "NUMBER");
            range("24 judged, case", terms(count, 1), "judged(#, 0)", 0, count - 1, "NUMBER");
        }
        for (int count = 0; count <= 5; count++) {
            range("19 termOf, " + count + " terms", terms(1, count), "termOf(0, #, 0)", 0, count - 1, "NUMBER");
            range("20 hour, " + count + " terms", wideTerms(count), "hour(0, #)", 0, count - 1, "NUMBER");
            range("24 judged, " + count + " terms", terms(1, count), "judged(0, #)", 0, count - 1, "NUMBER");
        }
        range("19 termOf, what 0 to 4", terms(1, 1), "termOf(0, 0, #)", 0, 4, "NUMBER");
        range("17 term, side 0 to 1", settled(1), "term(0, #, true, 0, 0, 0)", 0, 1, "NUMBER");
        range("17 term, act 0 to 5", settled(1), "term(0, 0, true, #, 0, 0)", 0, 5, "NUMBER");
        range("17 term, act 0 to 5", settled(1), "term(0, 1, false, #, 23, 23)", 0, 5, "NUMBER");
        range("21 canHold, side 0 to 1", settled(1), "canHold(0, #)", 0, 1, "NUMBER");
        String[] bothBreak = {"term(0, 0, true, 0, 3, 3) = 0", "term(0, 0, true, 0, 3, 3) = 1",
            "term(0, 1, true, 0, 3, 3) = 2", "term(0, 1, true, 0, 3, 3) = 3"};
        range("22 breaks, side 0 to 1", join(settled(1), bothBreak), "breaks(0, #)", 0, 1, "NUMBER");
    }

    private static void termHours() {
        range("17 term, first hour", settled(1), "term(0, 0, true, 0, #, 23)", 0, 23, "NUMBER");
        range("17 term, last hour", settled(1), "term(0, 0, true, 0, 0, #)", 0, 23, "NUMBER");
        for (int hour = 0; hour < 24; hour++) {
            range("17 term, a is not above b", settled(1), "term(0, 1, false, 5, #, " + hour + ")",
                    0, hour, "NUMBER");
            range("17 term, a is not above b", settled(1), "term(0, 1, true, 5, " + hour + ", #)",
                    hour, 23, "NUMBER");
        }
    }

    private static void logAndMany() {
        range("23 log, side 0 to 1", rows(2, 0, 1), "log(0, #, 0, 0)", 0, 1, "NUMBER");
        range("23 log, hour 0 to 23", rows(2, 0, 1), "log(0, 0, #, 0)", 0, 23, "NUMBER");
        range("23 log, hour 0 to 23", rows(2, 0, 1), "log(0, 1, #, 7)", 0, 23, "NUMBER");
        range("23 log, act 0 to 7", rows(2, 0, 1), "log(0, 0, 0, #)", 0, 7, "NUMBER");
        range("23 log, act 0 to 7", rows(2, 0, 1), "log(0, 1, 23, #)", 0, 7, "NUMBER");
        range("25 many, what 0 to 10", Houses.empty(), "many(#)", 0, 10, "NUMBER");
        range("25 many, what 0 to 10", Houses.full(), "many(#)", 0, 10, "NUMBER");
    }

    /** Inside, the call is answered by 0 or more; outside it is refused and changes nothing. */
    private static void range(String title, String[] house, String call, int least, int greatest,
            String refusal) {
        Script used = new Script(title).play(house);
        for (int v : values(least, greatest)) {
            String made = call.replace("#", Integer.toString(v));
            boolean inside = least <= v && v <= greatest;
            if (inside || used.left() < 1) {
                used = new Script(title).play(house);
            }
            int answer = used.answer(made);
            if (inside) {
                Script.due(title, made + " below 0", answer < 0 ? 1 : 0, 0);
            } else {
                Script.due(title, made, answer, refusal.equals("NONE") ? -5 : -1);
            }
            if (inside) {
                used = new Script(title).play(house);
            }
        }
        Twin.unchanged(title, house, refused(call, least, greatest, refusal));
    }

    private static String[] refused(String call, int least, int greatest, String refusal) {
        TreeSet<Integer> outside = new TreeSet<>();
        for (int v : FAR) {
            outside.add(v);
        }
        outside.add(least - 1);
        outside.add(greatest + 1);
        outside.removeIf(v -> least <= v && v <= greatest);
        return outside.stream().map(v -> call.replace("#", v.toString()) + " = " + refusal)
                .toArray(String[]::new);
    }

    /** All near ones, and those that would look near if only a part of their bits were read. */
    private static TreeSet<Integer> values(int least, int greatest) {
        TreeSet<Integer> values = new TreeSet<>();
        for (int v = -40; v <= 140; v++) {
            values.add(v);
        }
        for (int bit = 5; bit < 32; bit++) {
            for (int base : new int[] {1 << bit, -(1 << bit), ~(1 << bit)}) {
                for (int near : new int[] {-1, 0, 1, least, greatest}) {
                    values.add(base + near);
                }
            }
        }
        return values;
    }

    private static String[] rows(int parties, int mediators, int cases) {
        List<String> rows = new ArrayList<>();
        for (int i = 0; i < parties; i++) {
            rows.add("party(" + i + ", " + i % 3 + ") = " + i);
        }
        for (int i = 0; i < mediators; i++) {
            rows.add("mediator(9, 7) = " + i);
        }
        for (int i = 0; i < cases; i++) {
            rows.add("open(" + i % 2 + ", " + (1 - i % 2) + ") = " + i);
        }
        return rows.toArray(new String[0]);
    }

    private static String[] settled(int cases) {
        List<String> rows = new ArrayList<>(List.of(rows(2, 2, cases)));
        for (int i = 0; i < cases; i++) {
            rows.add("offer(" + i + ", 0, 10) = 0");
            rows.add("offer(" + i + ", 1, 20) = 1");
        }
        return rows.toArray(new String[0]);
    }

    /** Terms of the same hour, so that the second one of a side breaks. */
    private static String[] terms(int cases, int terms) {
        List<String> rows = new ArrayList<>(List.of(settled(cases)));
        for (int one = 0; one < cases; one++) {
            for (int term = 0; term < terms; term++) {
                rows.add("term(" + one + ", 0, true, 3, 12, 12) = " + term);
            }
        }
        return rows.toArray(new String[0]);
    }

    private static String[] wideTerms(int terms) {
        List<String> rows = new ArrayList<>(List.of(settled(1)));
        for (int term = 0; term < terms; term++) {
            rows.add("term(0, 0, true, 3, 0, 23) = " + term);
        }
        return rows.toArray(new String[0]);
    }

    private static String[] join(String[] first, String[] second) {
        List<String> rows = new ArrayList<>(List.of(first));
        rows.addAll(List.of(second));
        return rows.toArray(new String[0]);
    }
}
