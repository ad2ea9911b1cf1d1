import java.util.ArrayList;
import java.util.Arrays;
import java.util.List;

/**
 * The document again, written as near to its words as can be and without any haste: every number,
 * plan and table that may be is tried. The random runs compare QuietStairs with it.
 */
final class PlainStairs {
    static final int NUMBER = -1;
    static final int FULL = -2;
    static final int TWICE = -3;
    static final int STATE = -4;
    static final int NONE = -5;
    private static final int[][] PAIRS = {{0, 1}, {0, 2}, {0, 3}, {1, 2}, {1, 3}, {2, 3}};
    private static final int NOTHING = 99;

    private record Term(int side, boolean must, int act, int a, int b) {
    }

    private static final class Quarrel {
        int[] parties;
        String state = "OPEN";
        int weight = 1;
        Integer[] box = new Integer[2];
        List<int[]> rounds = new ArrayList<>();
        List<Term> terms = new ArrayList<>();
        int[][] log = new int[2][24];

        Quarrel copy() {
            Quarrel copy = new Quarrel();
            copy.parties = parties.clone();
            copy.state = state;
            copy.weight = weight;
            copy.box = box.clone();
            copy.rounds.addAll(rounds);
            copy.terms.addAll(terms);
            copy.log = new int[][] {log[0].clone(), log[1].clone()};
            return copy;
        }
    }

    private List<int[]> parties = new ArrayList<>();
    private List<int[]> mediators = new ArrayList<>();
    private List<List<Integer>> kin = new ArrayList<>();
    private List<Quarrel> cases = new ArrayList<>();
    private List<int[]> marks = new ArrayList<>();
    private int rooms = 1;
    private PlainStairs kept;

    private PlainStairs copy() {
        PlainStairs copy = new PlainStairs();
        copy.parties.addAll(parties);
        copy.mediators.addAll(mediators);
        for (List<Integer> row : kin) {
            copy.kin.add(new ArrayList<>(row));
        }
        for (Quarrel one : cases) {
            copy.cases.add(one.copy());
        }
        copy.marks.addAll(marks);
        return copy;
    }

    private static boolean in(int v, int least, int greatest) {
        return least <= v && v <= greatest;
    }

    private boolean noCase(int one) {
        return !in(one, 0, cases.size() - 1);
    }

    int party(int floor, int tongue) {
        if (!in(floor, 0, 9) || !in(tongue, 0, 2)) {
            return NUMBER;
        }
        if (parties.size() == 8) {
            return FULL;
        }
        parties.add(new int[] {floor, tongue});
        return parties.size() - 1;
    }

    int mediator(int floor, int tongues) {
        if (!in(floor, 0, 9) || !in(tongues, 1, 7)) {
            return NUMBER;
        }
        if (mediators.size() == 4) {
            return FULL;
        }
        mediators.add(new int[] {floor, tongues});
        kin.add(new ArrayList<>());
        return mediators.size() - 1;
    }

    int kin(int mediator, int party, boolean is) {
        if (!in(mediator, 0, mediators.size() - 1) || !in(party, 0, parties.size() - 1)) {
            return NUMBER;
        }
        List<Integer> row = kin.get(mediator);
        if (row.contains(party) == is) {
            return 0;
        }
        if (is) {
            row.add(party);
        } else {
            row.remove((Integer) party);
        }
        return 1;
    }

    int open(int asks, int gives) {
        if (!in(asks, 0, parties.size() - 1) || !in(gives, 0, parties.size() - 1) || asks == gives) {
            return NUMBER;
        }
        if (cases.size() == 6) {
            return FULL;
        }
        Quarrel one = new Quarrel();
        one.parties = new int[] {asks, gives};
        Arrays.fill(one.log[0], 7);
        Arrays.fill(one.log[1], 7);
        cases.add(one);
        return cases.size() - 1;
    }

    int close(int one) {
        if (noCase(one)) {
            return NUMBER;
        }
        if (!cases.get(one).state.equals("OPEN")) {
            return STATE;
        }
        cases.get(one).state = "CLOSED";
        return 1;
    }

    int weight(int one, int v) {
        if (noCase(one) || !in(v, 1, 9)) {
            return NUMBER;
        }
        int was = cases.get(one).weight;
        cases.get(one).weight = v;
        return was;
    }

    int mark(int one, int other) {
        if (noCase(one) || noCase(other) || one == other) {
            return NUMBER;
        }
        for (int[] m : marks) {
            if (m[0] == one && m[1] == other || m[0] == other && m[1] == one) {
                return TWICE;
            }
        }
        if (marks.size() == 6) {
            return FULL;
        }
        marks.add(new int[] {one, other});
        return marks.size();
    }

    /** The head of each case: marks pull the greater head down to the lesser until none does. */
    private int[] heads() {
        int[] heads = new int[cases.size()];
        for (int i = 0; i < heads.length; i++) {
            heads[i] = i;
        }
        boolean again = true;
        while (again) {
            again = false;
            for (int[] m : marks) {
                int least = Math.min(heads[m[0]], heads[m[1]]);
                again |= heads[m[0]] != least || heads[m[1]] != least;
                heads[m[0]] = least;
                heads[m[1]] = least;
            }
        }
        return heads;
    }

    private int sum(Quarrel one) {
        int[] last = one.rounds.get(one.rounds.size() - 1);
        return (last[0] + last[1]) / 2;
    }

    int of(int one, int what) {
        if (noCase(one) || !in(what, 0, 7)) {
            return NUMBER;
        }
        Quarrel asked = cases.get(one);
        int[] heads = heads();
        if (what <= 1) {
            return asked.parties[what];
        }
        if (what == 2) {
            return List.of("OPEN", "SETTLED", "CLOSED").indexOf(asked.state);
        }
        if (what == 3) {
            return asked.state.equals("SETTLED") ? sum(asked) : NONE;
        }
        if (what == 4) {
            return asked.rounds.size();
        }
        if (what == 5) {
            return heads[one];
        }
        if (what == 6) {
            return (int) Arrays.stream(heads).filter(h -> h == heads[one]).count();
        }
        return asked.weight;
    }

    int offer(int one, int side, int v) {
        if (noCase(one) || !in(side, 0, 1) || !in(v, 0, 100)) {
            return NUMBER;
        }
        Quarrel q = cases.get(one);
        if (!q.state.equals("OPEN")) {
            return STATE;
        }
        if (q.box[side] != null) {
            return TWICE;
        }
        if (q.rounds.size() == 5) {
            return FULL;
        }
        q.box[side] = v;
        if (q.box[1 - side] == null) {
            return 0;
        }
        q.rounds.add(new int[] {q.box[0], q.box[1]});
        if (q.box[1] >= q.box[0]) {
            q.state = "SETTLED";
            return 1;
        }
        q.box = new Integer[2];
        return 2;
    }

    int put(int one, int side) {
        if (noCase(one) || !in(side, 0, 1)) {
            return NUMBER;
        }
        return cases.get(one).box[side] != null ? 1 : 0;
    }

    int learns(int one, int side, int round, boolean greatest) {
        if (noCase(one) || !in(side, 0, 1)) {
            return NUMBER;
        }
        Quarrel q = cases.get(one);
        if (!in(round, 0, q.rounds.size() - 1)) {
            return NONE;
        }
        int[] was = q.rounds.get(round);
        boolean met = was[1] >= was[0];
        int answer = NONE;
        for (int v = 0; v <= 100; v++) {
            int[] may = side == 0 ? new int[] {was[0], v} : new int[] {v, was[1]};
            boolean fits = may[1] >= may[0] == met && (!met || (may[0] + may[1]) / 2 == sum(q));
            if (fits && (greatest || answer == NONE)) {
                answer = v;
            }
        }
        return answer;
    }

    private boolean fits(int pair, Quarrel q) {
        for (int p : q.parties) {
            boolean spoken = false;
            for (int m : PAIRS[pair]) {
                spoken |= (mediators.get(m)[1] & (int) Math.pow(2, parties.get(p)[1])) != 0;
                if (kin.get(m).contains(p) || mediators.get(m)[0] == parties.get(p)[0]) {
                    return false;
                }
            }
            if (!spoken) {
                return false;
            }
        }
        return true;
    }

    int maySit(int pair, int one) {
        if (!in(pair, 0, 5) || PAIRS[pair][1] >= mediators.size() || noCase(one)) {
            return NUMBER;
        }
        return fits(pair, cases.get(one)) ? 1 : 0;
    }

    int rooms(int v) {
        if (!in(v, 1, 2)) {
            return NUMBER;
        }
        int was = rooms;
        rooms = v;
        return was;
    }

    private List<Integer> planned() {
        List<Integer> planned = new ArrayList<>();
        for (int i = 0; i < cases.size() && planned.size() < 4; i++) {
            if (cases.get(i).state.equals("OPEN")) {
                planned.add(i);
            }
        }
        return planned;
    }

    private int waitOf(List<Integer> planned, int[] seats) {
        int sum = 0;
        for (int i = 0; i < seats.length; i++) {
            sum += cases.get(planned.get(i)).weight * (seats[i] == NOTHING ? 4 : seats[i] / 6);
        }
        return sum;
    }

    private boolean goTogether(int[] seats, int count) {
        for (int day = 0; day < 3; day++) {
            List<Integer> sitting = new ArrayList<>();
            for (int i = 0; i < count; i++) {
                if (seats[i] != NOTHING && seats[i] / 6 == day) {
                    sitting.add(PAIRS[seats[i] % 6][0]);
                    sitting.add(PAIRS[seats[i] % 6][1]);
                }
            }
            if (sitting.size() > 2 * rooms || sitting.stream().distinct().count() < sitting.size()) {
                return false;
            }
        }
        return true;
    }

    private void everyPlan(List<Integer> planned, int[] seats, int at, List<int[]> best) {
        if (at == seats.length) {
            boolean none = best.isEmpty();
            if (none || waitOf(planned, seats) < waitOf(planned, best.get(0))) {
                best.clear();
                best.add(seats.clone());
            } else if (waitOf(planned, seats) == waitOf(planned, best.get(0))
                    && Arrays.compare(seats, best.get(0)) < 0) {
                best.set(0, seats.clone());
            }
            return;
        }
        for (int seat = 0; seat <= 18; seat++) {
            boolean sits = seat < 18;
            seats[at] = sits ? seat : NOTHING;
            boolean may = !sits || maySit(seat % 6, planned.get(at)) == 1;
            if (may && goTogether(seats, at + 1)) {
                everyPlan(planned, seats, at + 1, best);
            }
        }
    }

    private int[] thePlan(List<Integer> planned) {
        List<int[]> best = new ArrayList<>();
        everyPlan(planned, new int[planned.size()], 0, best);
        return best.get(0);
    }

    int plan(int one) {
        if (noCase(one)) {
            return NUMBER;
        }
        if (!cases.get(one).state.equals("OPEN")) {
            return STATE;
        }
        List<Integer> planned = planned();
        if (!planned.contains(one)) {
            return NONE;
        }
        int seat = thePlan(planned)[planned.indexOf(one)];
        return seat == NOTHING ? NONE : seat;
    }

    int waits() {
        List<Integer> planned = planned();
        return waitOf(planned, thePlan(planned));
    }

    int term(int one, int side, boolean must, int act, int a, int b) {
        if (noCase(one) || !in(side, 0, 1) || !in(act, 0, 5) || !in(a, 0, 23) || !in(b, 0, 23) || a > b) {
            return NUMBER;
        }
        Quarrel q = cases.get(one);
        if (!q.state.equals("SETTLED")) {
            return STATE;
        }
        if (q.terms.size() == 5) {
            return FULL;
        }
        q.terms.add(new Term(side, must, act, a, b));
        return q.terms.size() - 1;
    }

    int strike(int one) {
        if (noCase(one)) {
            return NUMBER;
        }
        List<Term> terms = cases.get(one).terms;
        if (terms.isEmpty()) {
            return NONE;
        }
        terms.remove(terms.size() - 1);
        return terms.size();
    }

    private boolean noTerm(int one, int term) {
        return noCase(one) || !in(term, 0, cases.get(one).terms.size() - 1);
    }

    int termOf(int one, int term, int what) {
        if (noTerm(one, term) || !in(what, 0, 4)) {
            return NUMBER;
        }
        Term t = cases.get(one).terms.get(term);
        return new int[] {t.side, t.must ? 1 : 0, t.act, t.a, t.b}[what];
    }

    /** The hours of the musts of a side in turn, tried in order; null if there is no table. */
    private List<Integer> table(List<Term> terms, List<Term> musts, List<Integer> hours) {
        if (hours.size() == musts.size()) {
            return hours;
        }
        Term must = musts.get(hours.size());
        for (int hour = must.a; hour <= must.b; hour++) {
            int h = hour;
            boolean banned = terms.stream().anyMatch(t -> t.side == must.side && !t.must
                    && t.act == must.act && in(h, t.a, t.b));
            if (!banned && !hours.contains(hour)) {
                List<Integer> longer = new ArrayList<>(hours);
                longer.add(hour);
                List<Integer> found = table(terms, musts, longer);
                if (found != null) {
                    return found;
                }
            }
        }
        return null;
    }

    private static List<Term> musts(List<Term> terms, int side) {
        return terms.stream().filter(t -> t.must && t.side == side).toList();
    }

    private boolean holds(List<Term> terms, int side) {
        return table(terms, musts(terms, side), List.of()) != null;
    }

    int hour(int one, int term) {
        if (noTerm(one, term)) {
            return NUMBER;
        }
        List<Term> terms = cases.get(one).terms;
        Term asked = terms.get(term);
        if (!asked.must) {
            return STATE;
        }
        List<Integer> hours = table(terms, musts(terms, asked.side), List.of());
        int ahead = musts(terms.subList(0, term), asked.side).size();
        return hours == null ? NONE : hours.get(ahead);
    }

    int canHold(int one, int side) {
        if (noCase(one) || !in(side, 0, 1)) {
            return NUMBER;
        }
        return holds(cases.get(one).terms, side) ? 1 : 0;
    }

    int breaks(int one, int side) {
        if (noCase(one) || !in(side, 0, 1)) {
            return NUMBER;
        }
        List<Term> terms = cases.get(one).terms;
        for (int i = 0; i < terms.size(); i++) {
            if (terms.get(i).side == side && !holds(terms.subList(0, i + 1), side)) {
                return i;
            }
        }
        return NONE;
    }

    int log(int one, int side, int hour, int act) {
        if (noCase(one) || !in(side, 0, 1) || !in(hour, 0, 23) || !in(act, 0, 7)) {
            return NUMBER;
        }
        int was = cases.get(one).log[side][hour];
        cases.get(one).log[side][hour] = act;
        return was;
    }

    int judged(int one, int term) {
        if (noTerm(one, term)) {
            return NUMBER;
        }
        Term t = cases.get(one).terms.get(term);
        int[] hours = Arrays.copyOfRange(cases.get(one).log[t.side], t.a, t.b + 1);
        boolean done = Arrays.stream(hours).anyMatch(act -> act == t.act);
        boolean known = Arrays.stream(hours).allMatch(act -> act != 7);
        if (t.must) {
            return done ? 1 : known ? 0 : 2;
        }
        return done ? 0 : known ? 1 : 2;
    }

    int many(int what) {
        if (!in(what, 0, 10)) {
            return NUMBER;
        }
        int[] counts = new int[11];
        counts[0] = parties.size();
        counts[1] = mediators.size();
        counts[2] = cases.size();
        counts[5] = marks.size();
        counts[6] = (int) Arrays.stream(heads()).distinct().count();
        for (int i = 0; i < cases.size(); i++) {
            counts[3] += cases.get(i).state.equals("OPEN") ? 1 : 0;
            counts[4] += cases.get(i).state.equals("SETTLED") ? 1 : 0;
            counts[7] += cases.get(i).terms.size();
            for (int t = 0; t < cases.get(i).terms.size(); t++) {
                counts[new int[] {9, 8, 10}[judged(i, t)]]++;
            }
        }
        return counts[what];
    }

    int keep() {
        kept = copy();
        return 1;
    }

    int back() {
        if (kept == null) {
            return NONE;
        }
        PlainStairs again = kept.copy();
        parties = again.parties;
        mediators = again.mediators;
        kin = again.kin;
        cases = again.cases;
        marks = again.marks;
        return 1;
    }
}
