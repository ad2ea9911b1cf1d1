/**
 * Each refusal that a promise names, and two or more at once, of which the first one named is
 * answered; each is tried by itself, and nothing is changed by it.
 */
public final class RefusalsTest {
    public static void main(String[] args) {
        emptyHouse();
        comers();
        kinAndOpen();
        closeAndWeight();
        mark();
        of();
        offer();
        offerTwoAtOnce();
        putAndLearns();
        sittings();
        term();
        strikeAndTermOf();
        hour();
        sidesOfTerms();
        logAndJudged();
        manyAndBack();
        Script.end();
    }

    private static void refuse(String title, String[] house, String... rows) {
        for (String row : rows) {
            Twin.unchanged(title, house, row);
        }
    }

    /** Every call that names somebody or something, where there is nobody and nothing. */
    private static void emptyHouse() {
        refuse("1 no such thing in a new object", Houses.empty(),
                "kin(0, 0, true) = NUMBER", "kin(0, 0, false) = NUMBER", "open(0, 1) = NUMBER",
                "open(0, 0) = NUMBER", "close(0) = NUMBER", "weight(0, 1) = NUMBER",
                "mark(0, 1) = NUMBER", "mark(0, 0) = NUMBER", "of(0, 0) = NUMBER", "of(0, 2) = NUMBER",
                "of(0, 3) = NUMBER", "of(0, 5) = NUMBER", "of(0, 7) = NUMBER", "of(0, 8) = NUMBER",
                "offer(0, 0, 0) = NUMBER", "put(0, 0) = NUMBER", "learns(0, 0, 0, true) = NUMBER",
                "learns(0, 0, 0, false) = NUMBER", "maySit(0, 0) = NUMBER", "rooms(0) = NUMBER",
                "plan(0) = NUMBER", "term(0, 0, true, 0, 0, 0) = NUMBER", "strike(0) = NUMBER",
                "termOf(0, 0, 0) = NUMBER", "hour(0, 0) = NUMBER", "canHold(0, 0) = NUMBER",
                "breaks(0, 0) = NUMBER", "log(0, 0, 0, 0) = NUMBER", "judged(0, 0) = NUMBER",
                "many(11) = NUMBER", "back() = NONE");
    }

    private static void comers() {
        refuse("2 party: no such floor, tongue", Houses.middle(),
                "party(10, 0) = NUMBER", "party(-1, 0) = NUMBER", "party(0, 3) = NUMBER",
                "party(0, -1) = NUMBER", "party(10, 3) = NUMBER", "party(MIN, MAX) = NUMBER");
        refuse("2 party: full", Houses.full(), "party(0, 0) = FULL", "party(9, 2) = FULL");
        refuse("2 party: number ahead of full", Houses.full(),
                "party(10, 0) = NUMBER", "party(0, 3) = NUMBER", "party(-1, -1) = NUMBER");
        refuse("3 mediator: no such floor, tongues", Houses.middle(),
                "mediator(10, 1) = NUMBER", "mediator(-1, 1) = NUMBER", "mediator(0, 0) = NUMBER",
                "mediator(0, 8) = NUMBER", "mediator(10, 0) = NUMBER", "mediator(MAX, MIN) = NUMBER");
        refuse("3 mediator: full", Houses.full(), "mediator(0, 1) = FULL", "mediator(9, 7) = FULL");
        refuse("3 mediator: number ahead of full", Houses.full(),
                "mediator(10, 1) = NUMBER", "mediator(0, 0) = NUMBER", "mediator(0, 8) = NUMBER");
    }

    private static void kinAndOpen() {
        refuse("4 kin: no such mediator, party", Houses.middle(),
                "kin(3, 0, true) = NUMBER", "kin(-1, 0, true) = NUMBER", "kin(0, 3, true) = NUMBER",
                "kin(0, -1, false) = NUMBER", "kin(3, 3, true) = NUMBER", "kin(0, 34, false) = NUMBER");
        refuse("4 kin: no such mediator, party in a full house", Houses.full(),
                "kin(4, 0, true) = NUMBER", "kin(0, 8, true) = NUMBER", "kin(4, 8, false) = NUMBER");
        refuse("5 open: no such party, or the same", Houses.middle(),
                "open(3, 0) = NUMBER", "open(0, 3) = NUMBER", "open(-1, 0) = NUMBER",
                "open(0, -1) = NUMBER", "open(1, 1) = NUMBER", "open(3, 3) = NUMBER",
                "open(MAX, MAX) = NUMBER");
        refuse("5 open: full", Houses.full(), "open(0, 1) = FULL", "open(7, 6) = FULL");
        refuse("5 open: number ahead of full", Houses.full(),
                "open(8, 0) = NUMBER", "open(0, 8) = NUMBER", "open(4, 4) = NUMBER",
                "open(-1, -1) = NUMBER");
    }

    private static void closeAndWeight() {
        refuse("6 close: none such", Houses.middle(), "close(4) = NUMBER", "close(-1) = NUMBER");
        refuse("6 close: it is settled", Houses.middle(), "close(1) = STATE");
        refuse("6 close: it is closed", Houses.middle(), "close(2) = STATE");
        refuse("6 close in a full house", Houses.full(), "close(6) = NUMBER", "close(1) = STATE",
                "close(2) = STATE", "close(3) = STATE");
        refuse("7 weight: none such", Houses.middle(), "weight(4, 1) = NUMBER", "weight(-1, 1) = NUMBER");
        refuse("7 weight: not 1 to 9", Houses.middle(), "weight(3, 0) = NUMBER",
                "weight(3, 10) = NUMBER", "weight(2, -4) = NUMBER", "weight(1, MAX) = NUMBER");
        refuse("7 weight: both", Houses.full(), "weight(6, 0) = NUMBER", "weight(-1, 10) = NUMBER");
    }

    private static void mark() {
        refuse("8 mark: no such case, or the same", Houses.middle(),
                "mark(4, 0) = NUMBER", "mark(0, 4) = NUMBER", "mark(-1, 0) = NUMBER",
                "mark(0, -1) = NUMBER", "mark(3, 3) = NUMBER", "mark(4, 4) = NUMBER",
                "mark(0, 33) = NUMBER", "mark(33, 0) = NUMBER");
        refuse("8 mark: it is there", Houses.middle(), "mark(0, 1) = TWICE", "mark(2, 3) = TWICE");
        refuse("8 mark: it is there the other way round", Houses.middle(),
                "mark(1, 0) = TWICE", "mark(3, 2) = TWICE");
        refuse("8 mark: full", Houses.full(), "mark(0, 3) = FULL", "mark(5, 2) = FULL");
        refuse("8 mark: twice ahead of full", Houses.full(), "mark(0, 1) = TWICE",
                "mark(1, 0) = TWICE", "mark(5, 3) = TWICE", "mark(3, 5) = TWICE");
        refuse("8 mark: number ahead of full", Houses.full(), "mark(6, 0) = NUMBER",
                "mark(0, 6) = NUMBER", "mark(2, 2) = NUMBER", "mark(-1, -1) = NUMBER");
    }

    private static void of() {
        refuse("9 of: none such", Houses.middle(), "of(4, 0) = NUMBER", "of(-1, 7) = NUMBER");
        refuse("9 of: another what", Houses.middle(), "of(0, 8) = NUMBER", "of(1, -1) = NUMBER");
        refuse("9 of: both", Houses.middle(), "of(4, 8) = NUMBER", "of(MIN, MAX) = NUMBER");
        refuse("9 of: no sum of an open case", Houses.middle(), "of(0, 3) = NONE", "of(3, 3) = NONE");
        refuse("9 of: no sum of a closed case", Houses.middle(), "of(2, 3) = NONE");
        refuse("9 of: no sum after five rounds", Houses.full(), "of(0, 3) = NONE", "of(2, 3) = NONE");
        refuse("9 of: no sum where there is no case", Houses.middle(), "of(4, 3) = NUMBER");
    }

    private static void offer() {
        refuse("10 offer: no such case, side, number", Houses.middle(),
                "offer(4, 0, 5) = NUMBER", "offer(-1, 0, 5) = NUMBER", "offer(3, 2, 5) = NUMBER",
                "offer(3, -1, 5) = NUMBER", "offer(3, 0, 101) = NUMBER", "offer(3, 1, -1) = NUMBER",
                "offer(4, 2, 101) = NUMBER");
        refuse("10 offer: it is settled", Houses.middle(), "offer(1, 0, 5) = STATE", "offer(1, 1, 5) = STATE");
        refuse("10 offer: it is closed", Houses.middle(), "offer(2, 0, 5) = STATE");
        refuse("10 offer: one is in the box", Houses.middle(), "offer(0, 0, 55) = TWICE",
                "offer(0, 0, 0) = TWICE", "offer(0, 0, 100) = TWICE");
        refuse("10 offer: side 1's is in the box", Houses.full(), "offer(4, 1, 0) = TWICE",
                "offer(4, 1, 44) = TWICE");
        refuse("10 offer: 5 rounds are over", Houses.full(), "offer(0, 0, 0) = FULL",
                "offer(0, 1, 100) = FULL");
    }

    private static void offerTwoAtOnce() {
        refuse("10 offer: number ahead of state", Houses.middle(),
                "offer(1, 2, 5) = NUMBER", "offer(1, 0, 101) = NUMBER", "offer(2, -1, 5) = NUMBER",
                "offer(2, 0, -1) = NUMBER");
        refuse("10 offer: number ahead of twice", Houses.middle(), "offer(0, 0, 101) = NUMBER",
                "offer(0, 0, -1) = NUMBER");
        refuse("10 offer: number ahead of full", Houses.full(), "offer(0, 2, 5) = NUMBER",
                "offer(0, 0, 101) = NUMBER");
        refuse("10 offer: state ahead of twice", Houses.middle(), "offer(2, 1, 9) = STATE");
        refuse("10 offer: state ahead of twice, closed", Houses.full(), "offer(3, 0, 9) = STATE");
        refuse("10 offer: state ahead of full, settled in the fifth", Houses.full(),
                "offer(1, 0, 9) = STATE", "offer(1, 1, 9) = STATE");
        refuse("10 offer: state ahead of full, closed after the fifth", Houses.full(),
                "offer(2, 0, 9) = STATE", "offer(2, 1, 9) = STATE");
        refuse("10 offer: number ahead of state and full", Houses.full(), "offer(1, 0, 101) = NUMBER",
                "offer(2, 2, 0) = NUMBER");
    }

    private static void putAndLearns() {
        refuse("11 put: no such case, side", Houses.middle(), "put(4, 0) = NUMBER",
                "put(-1, 0) = NUMBER", "put(0, 2) = NUMBER", "put(0, -1) = NUMBER", "put(4, 2) = NUMBER");
        refuse("12 learns: no such case, side", Houses.middle(),
                "learns(4, 0, 0, true) = NUMBER", "learns(-1, 0, 0, false) = NUMBER",
                "learns(0, 2, 0, true) = NUMBER", "learns(0, -1, 0, false) = NUMBER");
        refuse("12 learns: no such round is over", Houses.middle(),
                "learns(0, 0, 1, true) = NONE", "learns(0, 1, 1, false) = NONE",
                "learns(0, 0, -1, true) = NONE", "learns(3, 0, 0, true) = NONE",
                "learns(2, 0, 0, true) = NONE", "learns(1, 1, 1, true) = NONE",
                "learns(1, 0, MIN, false) = NONE", "learns(1, 0, MAX, false) = NONE");
        refuse("12 learns: there is no sixth round", Houses.full(), "learns(0, 0, 5, true) = NONE",
                "learns(1, 1, 5, false) = NONE", "learns(2, 0, 5, true) = NONE");
        refuse("12 learns: number ahead of none", Houses.middle(),
                "learns(4, 0, 9, true) = NUMBER", "learns(3, 2, 0, true) = NUMBER",
                "learns(0, -1, -1, false) = NUMBER", "learns(-1, 2, 5, false) = NUMBER");
    }

    private static void sittings() {
        refuse("13 maySit: no such pair", Houses.middle(), "maySit(-1, 0) = NUMBER",
                "maySit(2, 0) = NUMBER", "maySit(4, 0) = NUMBER", "maySit(5, 0) = NUMBER",
                "maySit(6, 0) = NUMBER");
        refuse("13 maySit: no such case", Houses.full(), "maySit(0, 6) = NUMBER", "maySit(5, -1) = NUMBER");
        refuse("13 maySit: both", Houses.full(), "maySit(6, 6) = NUMBER", "maySit(-1, -1) = NUMBER");
        refuse("14 rooms: not 1 to 2", Houses.middle(), "rooms(0) = NUMBER", "rooms(3) = NUMBER",
                "rooms(-1) = NUMBER", "rooms(MIN) = NUMBER", "rooms(MAX) = NUMBER");
        refuse("15 plan: none such", Houses.middle(), "plan(4) = NUMBER", "plan(-1) = NUMBER");
        refuse("15 plan: it isn't open", Houses.middle(), "plan(1) = STATE", "plan(2) = STATE");
        String[] lonely = {"party(0, 0) = 0", "party(1, 0) = 1", "mediator(5, 7) = 0",
            "open(0, 1) = 0", "open(0, 1) = 1", "open(0, 1) = 2", "close(1) = 1",
            "offer(2, 0, 3) = 0", "offer(2, 1, 3) = 1", "keep() = 1"};
        refuse("15 plan: nothing", lonely, "plan(0) = NONE");
        refuse("15 plan: state ahead of none", lonely, "plan(1) = STATE", "plan(2) = STATE");
        String[] six = {"party(0, 0) = 0", "party(1, 0) = 1", "mediator(5, 7) = 0", "mediator(5, 7) = 1",
            "mediator(5, 7) = 2", "mediator(5, 7) = 3", "rooms(2) = 1", "open(0, 1) = 0", "open(0, 1) = 1",
            "open(0, 1) = 2", "open(0, 1) = 3", "open(0, 1) = 4", "open(0, 1) = 5"};
        refuse("15 plan: it isn't one of the 4", six, "plan(4) = NONE", "plan(5) = NONE");
        refuse("15 plan: none such behind the 4", six, "plan(6) = NUMBER");
    }

    private static void term() {
        refuse("17 term: no such case, side, act", Houses.middle(),
                "term(4, 0, true, 0, 0, 0) = NUMBER", "term(-1, 0, true, 0, 0, 0) = NUMBER",
                "term(1, 2, true, 0, 0, 0) = NUMBER", "term(1, -1, true, 0, 0, 0) = NUMBER",
                "term(1, 0, true, 6, 0, 0) = NUMBER", "term(1, 0, true, -1, 0, 0) = NUMBER",
                "term(1, 0, false, 7, 0, 0) = NUMBER");
        refuse("17 term: no such hour, or a is above b", Houses.middle(),
                "term(1, 0, true, 0, -1, 0) = NUMBER", "term(1, 0, true, 0, 24, 24) = NUMBER",
                "term(1, 0, true, 0, 23, 24) = NUMBER", "term(1, 0, true, 0, 0, 24) = NUMBER",
                "term(1, 0, true, 0, 0, -1) = NUMBER", "term(1, 0, true, 0, -1, -1) = NUMBER",
                "term(1, 0, true, 0, 1, 0) = NUMBER", "term(1, 0, true, 0, 23, 22) = NUMBER",
                "term(1, 0, true, 0, 23, 0) = NUMBER", "term(1, 0, true, 0, MIN, MAX) = NUMBER",
                "term(1, 0, true, 0, MAX, MIN) = NUMBER");
        refuse("17 term: it isn't settled", Houses.middle(), "term(0, 0, true, 0, 0, 0) = STATE",
                "term(3, 1, false, 5, 23, 23) = STATE", "term(2, 0, true, 0, 0, 0) = STATE");
        refuse("17 term: full", Houses.full(), "term(1, 0, true, 0, 0, 0) = FULL",
                "term(1, 1, false, 5, 0, 23) = FULL");
        refuse("17 term: number ahead of state", Houses.middle(),
                "term(0, 2, true, 0, 0, 0) = NUMBER", "term(3, 0, true, 6, 0, 0) = NUMBER",
                "term(2, 0, true, 0, 24, 24) = NUMBER", "term(2, 0, true, 0, 0, 24) = NUMBER",
                "term(0, 0, true, 0, 2, 1) = NUMBER");
        refuse("17 term: number ahead of full", Houses.full(),
                "term(1, 2, true, 0, 0, 0) = NUMBER", "term(1, 0, true, 6, 0, 0) = NUMBER",
                "term(1, 0, true, 0, -1, 0) = NUMBER", "term(1, 0, true, 0, 2, 1) = NUMBER");
    }

    private static void strikeAndTermOf() {
        refuse("18 strike: no such case", Houses.middle(), "strike(4) = NUMBER", "strike(-1) = NUMBER");
        refuse("18 strike: it has none", Houses.middle(), "strike(0) = NONE", "strike(2) = NONE",
                "strike(3) = NONE");
        refuse("19 termOf: no such case", Houses.middle(), "termOf(4, 0, 0) = NUMBER",
                "termOf(-1, 0, 0) = NUMBER");
        refuse("19 termOf: no such term", Houses.middle(), "termOf(1, 3, 0) = NUMBER",
                "termOf(1, -1, 0) = NUMBER", "termOf(0, 0, 0) = NUMBER", "termOf(2, 0, 0) = NUMBER");
        refuse("19 termOf: no sixth term", Houses.full(), "termOf(1, 5, 0) = NUMBER");
        refuse("19 termOf: another what", Houses.middle(), "termOf(1, 0, 5) = NUMBER",
                "termOf(1, 0, -1) = NUMBER");
        refuse("19 termOf: all at once", Houses.middle(), "termOf(4, 3, 5) = NUMBER",
                "termOf(1, 3, 5) = NUMBER", "termOf(MIN, MIN, MIN) = NUMBER");
    }

    private static void hour() {
        refuse("20 hour: no such case, term", Houses.middle(), "hour(4, 0) = NUMBER",
                "hour(-1, 0) = NUMBER", "hour(1, 3) = NUMBER", "hour(1, -1) = NUMBER",
                "hour(0, 0) = NUMBER", "hour(4, 3) = NUMBER");
        refuse("20 hour: no sixth term", Houses.full(), "hour(1, 5) = NUMBER");
        refuse("20 hour: it is a mustn't", Houses.middle(), "hour(1, 1) = STATE");
        refuse("20 hour: it is a mustn't of a side without musts", Houses.full(), "hour(1, 4) = STATE");
        refuse("20 hour: there is no table", Houses.full(), "hour(1, 0) = NONE", "hour(1, 1) = NONE",
                "hour(1, 3) = NONE");
        refuse("20 hour: state ahead of none", Houses.full(), "hour(1, 2) = STATE");
    }

    private static void sidesOfTerms() {
        refuse("21 canHold: no such case, side", Houses.middle(), "canHold(4, 0) = NUMBER",
                "canHold(-1, 0) = NUMBER", "canHold(1, 2) = NUMBER", "canHold(1, -1) = NUMBER",
                "canHold(4, 2) = NUMBER");
        refuse("22 breaks: no such case, side", Houses.middle(), "breaks(4, 0) = NUMBER",
                "breaks(-1, 0) = NUMBER", "breaks(1, 2) = NUMBER", "breaks(1, -1) = NUMBER",
                "breaks(4, 2) = NUMBER");
        refuse("22 breaks: there is none", Houses.middle(), "breaks(1, 0) = NONE",
                "breaks(1, 1) = NONE", "breaks(0, 0) = NONE", "breaks(2, 1) = NONE");
        refuse("22 breaks: there is none of side 1", Houses.full(), "breaks(1, 1) = NONE");
    }

    private static void logAndJudged() {
        refuse("23 log: no such case, side", Houses.middle(), "log(4, 0, 0, 0) = NUMBER",
                "log(-1, 0, 0, 0) = NUMBER", "log(1, 2, 0, 0) = NUMBER", "log(1, -1, 0, 0) = NUMBER");
        refuse("23 log: no such hour", Houses.middle(), "log(1, 0, 24, 0) = NUMBER",
                "log(1, 0, -1, 0) = NUMBER", "log(1, 1, 24, 7) = NUMBER");
        refuse("23 log: act isn't as told", Houses.middle(), "log(1, 0, 8, 8) = NUMBER",
                "log(1, 0, 8, -1) = NUMBER", "log(1, 1, 23, MAX) = NUMBER");
        refuse("23 log: all at once", Houses.middle(), "log(4, 2, 24, 8) = NUMBER",
                "log(MIN, MAX, MIN, MAX) = NUMBER");
        refuse("24 judged: no such case, term", Houses.middle(), "judged(4, 0) = NUMBER",
                "judged(-1, 0) = NUMBER", "judged(1, 3) = NUMBER", "judged(1, -1) = NUMBER",
                "judged(0, 0) = NUMBER", "judged(4, 3) = NUMBER");
        refuse("24 judged: no sixth term", Houses.full(), "judged(1, 5) = NUMBER");
    }

    private static void manyAndBack() {
        refuse("25 many: another what", Houses.middle(), "many(-1) = NUMBER", "many(11) = NUMBER",
                "many(MIN) = NUMBER", "many(MAX) = NUMBER");
        String[] unkept = {"party(0, 0) = 0", "party(1, 1) = 1", "open(0, 1) = 0", "offer(0, 0, 4) = 0",
            "rooms(2) = 1"};
        refuse("27 back: nothing is kept", unkept, "back() = NONE");
    }
}
