/** Houses in which the tests of the edges make their calls; each is rows for a new object. */
final class Houses {
    private Houses() {
    }

    /** Nobody has come. */
    static String[] empty() {
        return new String[0];
    }

    /**
     * Case 0 is open with one round over and side 0's number in the box, 1 is settled with three
     * terms, 2 is closed with side 1's number in the box, 3 is open and heavier. What is kept is
     * unlike what is there. There is still room for one of everything.
     */
    static String[] middle() {
        return new String[] {
            "party(0, 0) = 0", "party(1, 1) = 1", "party(2, 2) = 2",
            "mediator(5, 3) = 0", "mediator(6, 6) = 1", "mediator(7, 7) = 2",
            "open(0, 1) = 0", "open(1, 2) = 1", "open(2, 0) = 2", "open(0, 2) = 3",
            "offer(1, 1, 41) = 0", "offer(1, 0, 30) = 1",
            "term(1, 1, true, 5, 0, 0) = 0", "log(1, 1, 0, 6) = 7", "weight(2, 7) = 1",
            "kin(2, 0, true) = 1", "offer(3, 1, 8) = 0", "mark(2, 3) = 1", "keep() = 1",
            "strike(1) = 0", "kin(2, 0, false) = 1", "kin(0, 2, true) = 1",
            "mark(0, 1) = 2", "rooms(2) = 1",
            "offer(0, 0, 60) = 0", "offer(0, 1, 40) = 2", "offer(0, 0, 55) = 0",
            "offer(2, 1, 7) = 0", "close(2) = 1", "weight(3, 4) = 1",
            "term(1, 0, true, 1, 8, 9) = 0", "term(1, 0, false, 1, 8, 8) = 1",
            "term(1, 1, true, 2, 0, 23) = 2", "log(1, 0, 8, 6) = 7", "log(1, 0, 9, 1) = 7",
            "log(1, 1, 23, 2) = 7", "log(1, 1, 0, 7) = 6"};
    }

    /**
     * As many parties, mediators, cases and marks as may be. Five rounds are over in case 0 (open),
     * 1 (settled in the fifth, five terms) and 2 (closed); 3 is closed with side 0's number in the
     * box, 4 is open with side 1's, 5 is open.
     */
    static String[] full() {
        return new String[] {
            "party(0, 0) = 0", "party(1, 1) = 1", "party(2, 2) = 2", "party(3, 0) = 3",
            "party(4, 1) = 4", "party(5, 2) = 5", "party(6, 0) = 6", "party(7, 1) = 7",
            "mediator(8, 7) = 0", "mediator(9, 7) = 1", "mediator(8, 3) = 2", "mediator(9, 6) = 3",
            "kin(0, 7, true) = 1", "kin(3, 0, true) = 1", "kin(2, 5, true) = 1",
            "open(0, 1) = 0", "open(1, 2) = 1", "open(2, 3) = 2", "open(3, 4) = 3",
            "open(4, 5) = 4", "open(6, 7) = 5", "keep() = 1",
            "offer(0, 0, 1) = 0", "offer(0, 1, 0) = 2", "offer(0, 0, 100) = 0", "offer(0, 1, 99) = 2",
            "offer(0, 0, 50) = 0", "offer(0, 1, 40) = 2", "offer(0, 0, 9) = 0", "offer(0, 1, 8) = 2",
            "offer(0, 1, 70) = 0", "offer(0, 0, 80) = 2",
            "offer(1, 0, 9) = 0", "offer(1, 1, 8) = 2", "offer(1, 0, 9) = 0", "offer(1, 1, 8) = 2",
            "offer(1, 0, 9) = 0", "offer(1, 1, 8) = 2", "offer(1, 0, 9) = 0", "offer(1, 1, 8) = 2",
            "offer(1, 0, 20) = 0", "offer(1, 1, 31) = 1",
            "offer(2, 0, 6) = 0", "offer(2, 1, 5) = 2", "offer(2, 0, 6) = 0", "offer(2, 1, 5) = 2",
            "offer(2, 0, 6) = 0", "offer(2, 1, 5) = 2", "offer(2, 0, 6) = 0", "offer(2, 1, 5) = 2",
            "offer(2, 0, 6) = 0", "offer(2, 1, 5) = 2", "close(2) = 1",
            "offer(3, 0, 33) = 0", "close(3) = 1", "offer(4, 1, 44) = 0",
            "mark(0, 1) = 1", "mark(1, 2) = 2", "mark(2, 0) = 3", "mark(3, 4) = 4", "mark(4, 5) = 5",
            "mark(5, 3) = 6",
            "term(1, 0, true, 0, 6, 7) = 0", "term(1, 0, true, 1, 6, 7) = 1",
            "term(1, 0, false, 2, 7, 7) = 2", "term(1, 0, true, 2, 6, 7) = 3",
            "term(1, 1, false, 5, 0, 23) = 4", "log(1, 0, 6, 2) = 7", "log(1, 1, 23, 5) = 7",
            "weight(4, 9) = 1", "weight(5, 2) = 1"};
    }
}
