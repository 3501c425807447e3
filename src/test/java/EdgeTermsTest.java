/** The edges that the document names in I, THE ASSEMBLY, and in the words ahead of II's acts: a method for each. */
public final class EdgeTermsTest {
    public static void main(String[] args) {
        assembly();
        following();
        subjects();
        acts();
        Due.end();
    }

    private static void assembly() {
        seatsFirstAndLast();
        atFirst();
        moreYesThanNo();
        twoThirds();
        twoThirdsOfMost();
        halfOfSeats();
        halfOfMost();
        majorityOfClose();
        longestText();
        spanWithAndWithout();
        ninePending();
        eightPlaces();
        floorsWhileTop();
    }

    private static void following() {
        endsWhereItBegins();
        beginsWhereItEnds();
        acrossItsEdges();
        insertedAtEdges();
        wordsAsManyAsPlaces();
        takenAway();
        otherSubjectStays();
        toTheEndOfMost();
        notLaidStays();
        outOfOrderStays();
    }

    private static void subjects() {
        subjectAsLaid();
        subjectAsMoved();
        laidStaysWhenSubjectGoes();
        unlessItComesBack();
    }

    private static void acts() {
        doneIsAnEntry();
        refusedIsNone();
        roomOfEntries();
        roomIsBehindOthers();
        callsAfterAnother();
    }

    // I. THE ASSEMBLY

    /** "SEATS 0 .. n - 1 (n 1 .. 200), each THERE or not." */
    private static void seatsFirstAndLast() {
        int[] sizes = {1, 2, 199, 200};
        for (int n : sizes) {
            MotionFloor x = new MotionFloor();
            Due.due("seats(" + n + ")", x.seats(n), n);
            Due.due("seat(0)", x.seat(0), 0);
            Due.due("seat(n - 1)", x.seat(n - 1), 0);
            Due.due("seat(n)", x.seat(n), -1);
            Edge.done(x, "there(n - 1)", () -> x.there(n - 1), 1);
            Edge.refused(x, "there(n)", () -> x.there(n), Edge.RANGE);
            Edge.done(x, "chair(n - 1)", () -> x.chair(n - 1), n - 1);
            Due.due("seat(n - 1)", x.seat(n - 1), 1);
        }
    }

    /** "A CHAIR (a SEAT, or none); a QUORUM (0 at first); a LIMIT (0, none, at first)": of each new assembly. */
    private static void atFirst() {
        MotionFloor x = Due.sitting(3);
        x.quorum(2);
        x.limit(3);
        x.floor(1);
        x.seats(3);
        Due.due("the CHAIR", x.count(2), -1);
        Due.due("the QUORUM", x.count(3), 0);
        Due.due("LIMIT", x.count(4), 0);
        Due.due("THE FLOOR", x.count(5), -1);
        for (int kind = 1; kind <= 8; kind++) {
            Due.due("majority", x.majority(kind, 3), kind == 6 ? 2 : 1);
        }
    }

    /** A MAIN is told with so many yes and no of so many SEATS. */
    private static void dueResult(int seats, int sort, int yes, int no, int result) {
        MotionFloor x = Due.sitting(seats);
        x.majority(1, sort);
        Due.bring(x, 1, 5);
        for (int s = 0; s < yes; s++) {
            x.vote(s, 1);
        }
        for (int s = yes; s < yes + no; s++) {
            x.vote(s, 0);
        }
        Due.due(yes + " to " + no + " of " + seats + " by " + sort, x.told(), result);
        Due.dueResult(x, 0, x.count(8) - 1, 1, result, yes, no, -1);
    }

    /** "1 more yes than no." */
    private static void moreYesThanNo() {
        dueResult(6, 1, 0, 0, 2);
        dueResult(6, 1, 1, 0, 1);
        dueResult(6, 1, 3, 3, 2);
        dueResult(6, 1, 3, 2, 1);
        dueResult(6, 1, 2, 3, 2);
        dueResult(200, 1, 100, 100, 2);
        dueResult(200, 1, 101, 99, 1);
    }

    /** "2 two thirds or more of these (and one yes)." */
    private static void twoThirds() {
        dueResult(6, 2, 0, 0, 2);
        dueResult(6, 2, 0, 1, 2);
        dueResult(6, 2, 1, 0, 1);
        dueResult(6, 2, 1, 1, 2);
        dueResult(6, 2, 2, 1, 1);
        dueResult(6, 2, 3, 2, 2);
        dueResult(6, 2, 4, 2, 1);
    }

    /** The same, of the most SEATS: 133 1/3 are two thirds of them. */
    private static void twoThirdsOfMost() {
        dueResult(200, 2, 133, 67, 2);
        dueResult(200, 2, 134, 66, 1);
        dueResult(200, 2, 132, 66, 1);
        dueResult(200, 2, 200, 0, 1);
    }

    /** "3 more than half of all SEATS are yes": of all, not of those that are THERE or have a vote. */
    private static void halfOfSeats() {
        dueResult(6, 3, 3, 0, 2);
        dueResult(6, 3, 4, 0, 1);
        dueResult(6, 3, 4, 2, 1);
        dueResult(5, 3, 2, 0, 2);
        dueResult(5, 3, 3, 2, 1);
        MotionFloor x = Due.sitting(6);
        x.majority(1, 3);
        x.gone(5);
        x.gone(4);
        Due.bring(x, 1, 5);
        x.vote(1, 1);
        x.vote(2, 1);
        x.vote(3, 1);
        Edge.done(x, "3 of 4 that are THERE", () -> x.told(), 2);
    }

    /** The same, of the most SEATS. */
    private static void halfOfMost() {
        dueResult(200, 3, 100, 0, 2);
        dueResult(200, 3, 101, 99, 1);
        dueResult(199, 3, 99, 0, 2);
        dueResult(199, 3, 100, 99, 1);
    }

    /** "(CLOSE 2 at first, others 1)": as it is told. */
    private static void majorityOfClose() {
        for (int kind = 4; kind <= 8; kind++) {
            MotionFloor x = Due.sitting(6);
            Due.bring(x, 1, 5);
            Due.bring(x, kind);
            x.vote(1, 1);
            x.vote(2, 1);
            x.vote(3, 1);
            x.vote(4, 0);
            x.vote(5, 0);
            int due = kind == 6 ? 2 : 1;
            Edge.done(x, "told() of " + kind + " by 3 to 2", () -> x.told(), due);
        }
    }

    /** "A TEXT is a row of at most 400 words, numbers 1 .. 30000." */
    private static void longestText() {
        MotionFloor x = new MotionFloor();
        x.draft(1);
        for (int i = 0; i < 100; i++) {
            Due.due("word", x.word(30000, 1, 29999, 2), 4 * i + 4);
        }
        Edge.refused(x, "one more", () -> x.word(1, 0, 0, 0), Edge.ROOM);
        Due.due("text(9, 0)", x.text(9, 0), 30000);
        Due.due("text(9, 399)", x.text(9, 399), 2);
        Due.due("text(9, 400)", x.text(9, 400), -1);
        x.lay(0);
        Due.dueDesk(x, 0, 2, 1, 400, 0, 0, 0);
    }

    /** "The places from one (with it) to another one (without it)." */
    private static void spanWithAndWithout() {
        MotionFloor x = Edge.mainOf(5);
        Due.bringAmend(x, 2, 1, 3, 9);
        Due.carry(x);
        Due.dueText(x, 0, 1, 9, 4, 5);
    }

    /** "PENDING are at most 9 motions": a move and a RULING are refused with 9. */
    private static void ninePending() {
        MotionFloor x = Edge.ninePending(7);
        Due.due("pending(8, 0)", x.pending(8, 0), 7);
        Due.due("pending(9, 0)", x.pending(9, 0), -1);
        x.draft(8);
        x.floor(3);
        Edge.refused(x, "move(3)", () -> x.move(3), Edge.ROOM);
        Edge.refused(x, "rule()", () -> x.rule(), Edge.ROOM);
    }

    /** "THE DESK has PLACES 0 .. 7." */
    private static void eightPlaces() {
        MotionFloor x = new MotionFloor();
        Edge.fillDesk(x, 0, 8);
        x.draft(1);
        Edge.refused(x, "lay(8)", () -> x.lay(8), Edge.RANGE);
        for (int p = 0; p < 8; p++) {
            Due.due("desk(" + p + ", 0)", x.desk(p, 0), 2);
        }
        Due.due("desk(8, 0)", x.desk(8, 0), -1);
        Due.due("desk(-1, 0)", x.desk(-1, 0), -1);
    }

    /** "FLOORS (how often the floor was given while it was the top)." */
    private static void floorsWhileTop() {
        MotionFloor x = Edge.mainOf(1);
        Due.due("none ahead of it", x.pending(0, 6), 0);
        x.floor(3);
        x.cede();
        Due.bring(x, 2, 5);
        x.floor(3);
        x.cede();
        x.floor(3);
        Due.due("the MAIN, its own and the AMEND's mover's", x.pending(0, 6), 2);
        Due.due("the AMEND", x.pending(1, 6), 2);
    }

    /**
     * In a MAIN of 10 words places a .. b become m words; the SPAN c .. d of a LAID one comes to be this one (from NONE on
     * OUT OF ORDER, then it is as it was).
     */
    private static void dueSpan(int a, int b, int m, int c, int d, int from) {
        MotionFloor x = Edge.mainOf(10);
        Due.layAmend(x, 3, 2, c, d, 7);
        Edge.writeAmend(x, 2, a, b, m);
        Due.bring(x);
        Due.carry(x);
        Due.due("words of the MAIN", x.pending(0, 3), 10 - (b - a) + m);
        int begin = from < 0 ? c : from;
        Due.dueDesk(x, 3, 2, 2, 1, begin, begin + d - c, from < 0 ? 1 : 0);
    }

    /** "d not above a: stays." */
    private static void endsWhereItBegins() {
        dueSpan(4, 6, 5, 2, 4, 2);
        dueSpan(4, 6, 5, 0, 1, 0);
        dueSpan(4, 6, 5, 4, 4, 4);
        dueSpan(4, 6, 5, 0, 0, 0);
        dueSpan(4, 6, 5, 2, 5, -1);
        dueSpan(0, 1, 3, 0, 0, 0);
    }

    /** "c not below b: goes on by m - (b - a)." */
    private static void beginsWhereItEnds() {
        dueSpan(4, 6, 5, 6, 8, 9);
        dueSpan(4, 6, 5, 6, 6, 9);
        dueSpan(4, 6, 5, 10, 10, 13);
        dueSpan(4, 6, 5, 9, 10, 12);
        dueSpan(4, 6, 5, 5, 8, -1);
        dueSpan(0, 10, 3, 10, 10, 3);
    }

    /** "Else it is OUT OF ORDER": within, around, across, the same. */
    private static void acrossItsEdges() {
        dueSpan(4, 6, 5, 4, 6, -1);
        dueSpan(4, 6, 5, 5, 5, -1);
        dueSpan(4, 6, 5, 4, 5, -1);
        dueSpan(4, 6, 5, 5, 6, -1);
        dueSpan(4, 6, 5, 3, 7, -1);
        dueSpan(4, 6, 5, 0, 10, -1);
        dueSpan(0, 10, 0, 9, 10, -1);
    }

    /** The same with an empty SPAN a .. a: what is about just that place stays, as d is not above a. */
    private static void insertedAtEdges() {
        dueSpan(4, 4, 2, 4, 4, 4);
        dueSpan(4, 4, 2, 2, 4, 2);
        dueSpan(4, 4, 2, 4, 6, 6);
        dueSpan(4, 4, 2, 5, 5, 7);
        dueSpan(4, 4, 2, 3, 5, -1);
        dueSpan(0, 0, 2, 0, 1, 2);
        dueSpan(10, 10, 2, 9, 10, 9);
        dueSpan(10, 10, 2, 10, 10, 10);
    }

    /** The same with m = b - a: what is behind it goes on by 0, what is across is OUT OF ORDER. */
    private static void wordsAsManyAsPlaces() {
        dueSpan(4, 6, 2, 6, 7, 6);
        dueSpan(4, 6, 2, 5, 7, -1);
        dueSpan(4, 4, 0, 3, 5, -1);
        dueSpan(4, 4, 0, 4, 5, 4);
    }

    /** The same with m below b - a: it goes back. */
    private static void takenAway() {
        dueSpan(4, 6, 0, 6, 7, 4);
        dueSpan(0, 6, 0, 6, 10, 0);
        dueSpan(4, 7, 1, 7, 7, 5);
        dueSpan(0, 10, 0, 0, 0, 0);
        dueSpan(0, 10, 0, 10, 10, 0);
    }

    /** "Each LAID one with that SUBJECT": not one with the AMEND that is carried, or with a COMMIT, as its SUBJECT. */
    private static void otherSubjectStays() {
        MotionFloor x = Edge.mainOf(6);
        Due.layAmend(x, 0, 2, 4, 6, 9);
        Due.bring(x, 4, 1, 2, 3, 4, 5, 6);
        Due.layAmend(x, 1, 2, 4, 6, 9);
        Due.bringAmend(x, 2, 0, 2, 8, 7, 6, 5, 4, 3);
        Due.layAmend(x, 2, 3, 4, 6, 9);
        Due.bringAmend(x, 3, 0, 1);
        Due.carry(x);
        Due.dueDesk(x, 0, 2, 2, 1, 4, 6, 0);
        Due.dueDesk(x, 1, 2, 2, 1, 4, 6, 0);
        Due.dueDesk(x, 2, 2, 3, 1, 3, 5, 0);
        Due.carry(x);
        Due.dueDesk(x, 0, 2, 2, 1, 4, 6, 0);
        Due.dueDesk(x, 1, 2, 2, 1, 7, 9, 0);
        Due.dueDesk(x, 2, 2, 3, 1, 3, 5, 0);
    }

    /** The same at the ends of the longest TEXT. */
    private static void toTheEndOfMost() {
        MotionFloor x = Edge.mainOf(200);
        Due.layAmend(x, 0, 2, 200, 200, 9);
        Due.layAmend(x, 7, 2, 199, 200, 9);
        Edge.writeAmend(x, 2, 0, 0, 200);
        Due.bring(x);
        Due.carry(x);
        Due.dueDesk(x, 0, 2, 2, 1, 400, 400, 0);
        Due.dueDesk(x, 7, 2, 2, 1, 399, 400, 0);
        x.take(7);
        x.floor(1);
        Edge.done(x, "move(1)", () -> x.move(1), 2);
        Due.duePending(x, 1, 2, 1, -1, 1, 399, 400);
    }

    /** "(On THE DESK, or THE DRAFT)", but no DRAFT that was not LAID, and no TABLED AMEND. */
    private static void notLaidStays() {
        MotionFloor x = Edge.mainOf(6);
        Due.layAmend(x, 0, 2, 4, 5, 9);
        Due.bringAmend(x, 2, 0, 1);
        x.take(0);
        Due.carry(x);
        x.lay(1);
        Due.dueDesk(x, 1, 2, 2, 1, 3, 4, 0);
        Due.bringAmend(x, 2, 0, 1);
        x.draft(2);
        x.span(3, 4);
        Due.carry(x);
        x.lay(2);
        Due.dueDesk(x, 1, 2, 2, 1, 2, 3, 0);
        Due.dueDesk(x, 2, 2, 2, 0, 3, 4, 0);
    }

    /** One OUT OF ORDER is so when it is taken, laid again, and when other AMENDS are carried. */
    private static void outOfOrderStays() {
        MotionFloor x = Edge.mainOf(8);
        Due.layAmend(x, 0, 2, 3, 5, 9);
        Due.bringAmend(x, 2, 4, 6, 7, 6);
        Due.carry(x);
        Due.dueDesk(x, 0, 2, 2, 1, 3, 5, 1);
        x.take(0);
        Edge.done(x, "lay(4)", () -> x.lay(4), 4);
        Due.dueDesk(x, 4, 2, 2, 1, 3, 5, 1);
        Due.bringAmend(x, 2, 6, 8);
        Due.carry(x);
        Due.dueDesk(x, 4, 2, 2, 1, 3, 5, 1);
        x.take(4);
        x.floor(1);
        Edge.refused(x, "move(1)", () -> x.move(1), Edge.SPAN);
    }

    /** "An AMEND (SECOND) has a SUBJECT ..: the TOP as it is laid": as it is laid first. */
    private static void subjectAsLaid() {
        MotionFloor x = Edge.mainOf(3);
        Due.layAmend(x, 0, 2, 0, 1, 9);
        Due.bring(x, 4, 5, 6);
        x.take(0);
        Edge.done(x, "laid again on a COMMIT", () -> x.lay(1), 1);
        x.take(1);
        x.floor(1);
        Edge.refused(x, "the COMMIT is not its SUBJECT", () -> x.move(1), Edge.SPAN);
        x.cede();
        Due.lose(x);
        x.floor(1);
        Edge.done(x, "the MAIN is", () -> x.move(1), 2);
    }

    /** "Or moved if it was not laid": whatever the TOP was as it was drafted. */
    private static void subjectAsMoved() {
        MotionFloor x = Edge.mainOf(2);
        Due.write(x, 2, 9);
        x.span(0, 1);
        Due.lose(x);
        Due.write(x, 1, 4, 5, 6);
        Due.bring(x);
        Due.write(x, 2, 9);
        x.span(2, 3);
        x.floor(1);
        Edge.done(x, "move(1)", () -> x.move(1), 2);
        x.second(2);
        Due.carry(x);
        Due.dueText(x, 0, 4, 5, 9);
    }

    /** "One that is LAID stays so when its SUBJECT goes; it can't be moved any more (SPAN)": however it goes. */
    private static void laidStaysWhenSubjectGoes() {
        for (int way = 0; way < 6; way++) {
            MotionFloor x = Edge.mainOf(3);
            Due.layAmend(x, 7, 2, 1, 2, 9);
            if (way == 0) {
                Due.lose(x);
            } else if (way == 1) {
                Due.carry(x);
            } else if (way == 2) {
                x.withdraw(1);
            } else if (way == 3) {
                x.rule();
                x.told();
            } else if (way == 4) {
                x.adjourn();
            } else {
                Due.bring(x, 4);
                Due.carry(x);
            }
            Due.due("its SUBJECT is gone by " + way, x.count(6), 0);
            Due.dueDesk(x, 7, 2, 2, 1, 1, 2, 0);
            x.draft(1);
            Due.fill(x, 3, 1);
            Due.bring(x);
            x.take(7);
            x.floor(1);
            Edge.refused(x, "move(1)", () -> x.move(1), Edge.SPAN);
        }
    }

    /** "Unless that comes back (by TABLED)": a MAIN and an AMEND, with the words that they had. */
    private static void unlessItComesBack() {
        MotionFloor x = Edge.mainOf(3);
        Due.layAmend(x, 7, 2, 1, 2, 9);
        Due.bringAmend(x, 2, 0, 1, 8, 7);
        Due.layAmend(x, 6, 3, 0, 2, 6);
        Due.bring(x, 7);
        Due.carry(x);
        Due.dueDesk(x, 7, 2, 2, 1, 1, 2, 0);
        Due.bring(x, 1, 1, 2, 3);
        x.take(7);
        x.floor(1);
        Edge.refused(x, "while it is TABLED", () -> x.move(1), Edge.SPAN);
        x.lay(7);
        Due.lose(x);
        x.take(0);
        Edge.moveAlone(x, 3);
        x.take(6);
        x.floor(1);
        Edge.done(x, "the SECOND, when it is back", () -> x.move(1), 3);
        x.second(2);
        Due.carry(x);
        Due.carry(x);
        Due.dueText(x, 0, 6, 2, 3);
        x.take(7);
        x.floor(1);
        Edge.done(x, "the AMEND, when it is back", () -> x.move(1), 2);
    }

    // II. ACTS

    /** "An act that is done answers 0 or more, and is an ENTRY of the MINUTES." */
    private static void doneIsAnEntry() {
        MotionFloor x = new MotionFloor();
        x.seats(5);
        Edge.done(x, "there(4)", () -> x.there(4), 1);
        Edge.done(x, "chair(4)", () -> x.chair(4), 4);
        Edge.done(x, "majority(8, 3)", () -> x.majority(8, 3), 1);
        Edge.done(x, "draft(2)", () -> x.draft(2), 2);
        Edge.done(x, "span(3, 3)", () -> x.span(3, 3), 0);
        Edge.done(x, "word(9, 0, 0, 8)", () -> x.word(9, 0, 0, 8), 2);
        Edge.done(x, "adjourn()", () -> x.adjourn(), 0);
        Due.dueEntry(x, 0, 1, 4, 0, 0, 0, 1, -1);
        Due.dueEntry(x, 2, 5, 8, 3, 0, 0, 1, -1);
        Due.dueEntry(x, 4, 11, 3, 3, 0, 0, 0, -1);
        Due.dueEntry(x, 5, 12, 9, 0, 0, 8, 2, -1);
        Due.dueEntry(x, 6, 22, 0, 0, 0, 0, 0, -1);
        Due.dueEntry(x, 7, -1, -1, -1, -1, -1, -1, -1);
    }

    /** "One that is refused answers less its REASON": each act on a new object, with what is nothing of its own. */
    private static void refusedIsNone() {
        MotionFloor x = new MotionFloor();
        Edge.refused(x, "there(-1)", () -> x.there(-1), Edge.RANGE);
        Edge.refused(x, "gone(0)", () -> x.gone(0), Edge.THERE);
        Edge.refused(x, "quorum(-1)", () -> x.quorum(-1), Edge.RANGE);
        Edge.refused(x, "chair(0)", () -> x.chair(0), Edge.THERE);
        Edge.refused(x, "majority(0, 0)", () -> x.majority(0, 0), Edge.RANGE);
        Edge.refused(x, "limit(-1)", () -> x.limit(-1), Edge.RANGE);
        Edge.refused(x, "floor(0)", () -> x.floor(0), Edge.THERE);
        Edge.refused(x, "cede()", () -> x.cede(), Edge.FLOOR);
        Edge.refused(x, "debate(0)", () -> x.debate(0), Edge.PENDING);
        Edge.refused(x, "draft(0)", () -> x.draft(0), Edge.RANGE);
        Edge.refused(x, "span(0, 0)", () -> x.span(0, 0), Edge.STATE);
        Edge.refused(x, "word(1, 0, 0, 0)", () -> x.word(1, 0, 0, 0), Edge.STATE);
        Edge.refused(x, "lay(0)", () -> x.lay(0), Edge.STATE);
        Edge.refused(x, "take(0)", () -> x.take(0), Edge.STATE);
        Edge.refused(x, "move(0)", () -> x.move(0), Edge.STATE);
        Edge.refused(x, "second(0)", () -> x.second(0), Edge.PENDING);
        Edge.refused(x, "vote(0, 1)", () -> x.vote(0, 1), Edge.PENDING);
        Edge.refused(x, "withdraw(0)", () -> x.withdraw(0), Edge.PENDING);
        Edge.refused(x, "rule()", () -> x.rule(), Edge.THERE);
        Edge.refused(x, "appeal(0)", () -> x.appeal(0), Edge.PENDING);
        Edge.refused(x, "told()", () -> x.told(), Edge.THERE);
        Edge.refused(x, "adjourn()", () -> x.adjourn(), Edge.THERE);
        Due.due("count(8)", x.count(8), 0);
    }

    private static MotionFloor fullMinutes() {
        MotionFloor x = Due.sitting(4);
        while (x.count(8) < 599) {
            x.draft(1);
        }
        return x;
    }

    /** "At most 600" ENTRIES; "10 without room for an ENTRY". (More than 512 calls, of which nothing is promised.) */
    private static void roomOfEntries() {
        MotionFloor x = fullMinutes();
        x.floor(1);
        Due.due("count(8)", x.count(8), 600);
        Edge.refused(x, "cede()", () -> x.cede(), Edge.ROOM);
        Edge.refused(x, "move(1)", () -> x.move(1), Edge.ROOM);
        Due.due("order(1)", x.order(1), 0);
        Due.due("why()", x.why(), 10);
        Edge.refused(x, "adjourn()", () -> x.adjourn(), Edge.ROOM);
        Due.due("again()", x.again(), -1);
        Due.due("journal(599, 0)", x.journal(599, 0), 7);
        Due.due("before(600, 9, 0)", x.before(600, 9, 0), -1);
    }

    /** "Behind them all 10." */
    private static void roomIsBehindOthers() {
        MotionFloor x = fullMinutes();
        x.floor(1);
        Edge.refused(x, "draft(0)", () -> x.draft(0), Edge.RANGE);
        Edge.refused(x, "floor(2)", () -> x.floor(2), Edge.FLOOR);
        Edge.refused(x, "told()", () -> x.told(), Edge.PENDING);
        Edge.refused(x, "there(1)", () -> x.there(1), Edge.STATE);
    }

    /** All of an object's 512 calls are acts that are done: 512 ENTRIES, and they come again. */
    private static void callsAfterAnother() {
        MotionFloor x = new MotionFloor();
        for (int i = 0; i < 256; i++) {
            Due.due("there(0)", x.there(0), 1);
            Due.due("gone(0)", x.gone(0), 0);
        }
        Due.due("count(8)", x.count(8), 512);
        Due.due("again()", x.again(), -1);
        Due.dueEntry(x, 511, 2, 0, 0, 0, 0, 0);
    }
}
