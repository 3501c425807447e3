import java.util.List;

/** The edges that the document names in Promises 1, 2 and 25 to 42: a method for each sentence or part of one. */
public final class EdgeAsksTest {
    private static final int LEAST = Edge.LEAST;
    private static final int MOST = Edge.MOST;

    public static void main(String[] args) {
        begins();
        orders();
        motions();
        papers();
        counts();
        minutes();
        rows();
        images();
        Due.end();
    }

    private static void begins() {
        newOneSeat();
        newNothingDone();
        newNoImages();
        seatsRange();
        seatsAsAtFirst();
        seatsImagesAndRowStay();
    }

    private static void orders() {
        orderDone();
        orderRefused();
        orderChangesNothing();
        whyAheadOfAny();
        whyOfLatest();
        whyBehindOrder();
        whyBehindOtherCalls();
    }

    private static void motions() {
        pendingFromLowest();
        pendingSeconderNone();
        pendingSpanOfOthers();
        pendingClosed();
        pendingNoneSuch();
        pendingOtherWhat();
        textOfPending();
        textOfAdopted();
        textOfDraft();
        textNoneSuch();
        ballotOfTop();
        ballotNone();
    }

    private static void papers() {
        deskNothing();
        deskLetter();
        deskMotion();
        deskTabled();
        deskOther();
        lyingWords();
        lyingNone();
        resultFacts();
        resultNoneSuch();
    }

    private static void counts() {
        countAtFirst();
        countNone();
        countDraft();
        countAdopted();
        countRow();
        countOther();
        seatThere();
        seatNone();
    }

    private static void minutes() {
        journalFewer();
        journalNoneSuch();
        journalOther();
        beforeEnds();
        beforeNotSoMany();
        beforeWords();
        beforeAsItWas();
        againNone();
        againOfImage();
    }

    private static void rows() {
        tellHowMany();
        tellTooMany();
        tellAnything();
        checkEmpty();
        checkNoAct();
        checkRefused();
        checkNumberTooMany();
        checkOtherwise();
        checkAnswerOfNought();
        checkEachNumber();
        checkFirst();
        checkNewAssembly();
        checkStays();
        strikeEmpty();
        strikeHad();
    }

    private static void images() {
        imageWhich();
        imageEntries();
        imageOfAll();
        imageAnew();
        backWhich();
        backNotKept();
        backStays();
        backWhy();
        backLeavesRowAndImages();
        backGoesOn();
    }

    // Promise 1

    /** "One SEAT, not there." */
    private static void newOneSeat() {
        MotionFloor x = new MotionFloor();
        Due.due("count(0)", x.count(0), 1);
        Due.due("count(1)", x.count(1), 0);
        Due.due("seat(0)", x.seat(0), 0);
        Due.due("seat(1)", x.seat(1), -1);
    }

    /** "Nothing done .., an empty ROW." */
    private static void newNothingDone() {
        MotionFloor x = new MotionFloor();
        int[] counts = {1, 0, -1, 0, 0, -1, 0, 0, 0, 0, -1, 0, 0};
        for (int what = 0; what < counts.length; what++) {
            Due.due("count(" + what + ")", x.count(what), counts[what]);
        }
        Due.due("again()", x.again(), -1);
        Due.due("check()", x.check(), -1);
        Due.due("strike()", x.strike(), 0);
        Due.due("before(0, -1, 0)", x.before(0, -1, 0), -1);
    }

    /** "No images"; and two objects have nothing in common. */
    private static void newNoImages() {
        MotionFloor other = Due.sitting(3);
        other.image(0);
        other.image(1);
        other.tell(1, 0, 0, 0, 0, 1);
        MotionFloor x = new MotionFloor();
        Edge.asked(x, "back(0)", () -> x.back(0), -11);
        Edge.asked(x, "back(1)", () -> x.back(1), -11);
        Due.due("count(12)", x.count(12), 0);
        x.there(0);
        Due.due("the other's ENTRIES", other.count(8), 4);
    }

    // Promise 2

    /** "n; -9 when n is not 1 .. 200." */
    private static void seatsRange() {
        MotionFloor x = Due.sitting(3);
        Due.bring(x, 1, 5);
        Edge.asked(x, "seats(0)", () -> x.seats(0), -9);
        Edge.asked(x, "seats(-1)", () -> x.seats(-1), -9);
        Edge.asked(x, "seats(201)", () -> x.seats(201), -9);
        Edge.asked(x, "seats(MIN)", () -> x.seats(LEAST), -9);
        Edge.asked(x, "seats(MAX)", () -> x.seats(MOST), -9);
        Due.due("seats(1)", x.seats(1), 1);
        Due.due("count(0)", x.count(0), 1);
        Due.due("seats(200)", x.seats(200), 200);
        Due.due("count(0)", x.count(0), 200);
    }

    /** "A new assembly of n SEATS, as at first": nobody of before is THERE in it, with as many SEATS, too. */
    private static void seatsAsAtFirst() {
        MotionFloor x = Due.sitting(3);
        Due.bring(x, 1, 5);
        Due.carry(x);
        Due.bring(x, 1, 6);
        x.vote(2, 1);
        Due.layAmend(x, 7, 2, 0, 1, 9);
        x.draft(4);
        x.floor(1);
        x.floor(1);
        Due.due("why()", x.why(), 2);
        Due.due("seats(3)", x.seats(3), 3);
        Due.due("why()", x.why(), 0);
        MotionFloor y = new MotionFloor();
        y.seats(3);
        Due.due("all is as of a new one", Due.all(x).equals(Due.all(y)) ? 1 : 0, 1);
        for (int s = 0; s < 3; s++) {
            x.there(s);
        }
        x.chair(0);
        Due.bring(x, 1, 6);
        Due.due("no VOTES of before", x.pending(0, 9), 0);
        Due.due("ballot(2)", x.ballot(2), -1);
    }

    /** "(Images and the ROW stay)." */
    private static void seatsImagesAndRowStay() {
        MotionFloor x = Due.sitting(3);
        x.image(1);
        x.tell(1, 0, 0, 0, 0, 1);
        x.seats(5);
        Due.due("count(12)", x.count(12), 1);
        Due.due("back(0)", x.back(0), -11);
        Due.due("back(1)", x.back(1), 4);
        Due.due("count(0)", x.count(0), 3);
    }

    // Promise 25

    /** "1 if move(s) would be done as things are." */
    private static void orderDone() {
        MotionFloor x = Due.sitting(3);
        x.draft(1);
        x.floor(1);
        Edge.asked(x, "order(1)", () -> x.order(1), 1);
        Edge.asked(x, "order(1) again", () -> x.order(1), 1);
        Edge.done(x, "move(1)", () -> x.move(1), 1);
    }

    /** "Else 0", for each of its REASONS. */
    private static void orderRefused() {
        MotionFloor x = Due.sitting(4);
        dueOrder(x, 11);
        x.draft(4);
        dueOrder(x, 1);
        x.draft(1);
        dueOrder(x, 2);
        x.floor(1);
        x.move(1);
        x.draft(8);
        x.floor(1);
        dueOrder(x, 3);
        x.told();
        x.quorum(4);
        x.draft(1);
        x.floor(1);
        x.gone(3);
        dueOrder(x, 4);
        x.there(3);
        x.move(1);
        x.second(2);
        x.floor(1);
        x.draft(2);
        x.span(0, 1);
        dueOrder(x, 5);
        Edge.fillDesk(x, 0, 8);
        x.draft(7);
        dueOrder(x, 10);
    }

    private static void dueOrder(MotionFloor x, int reason) {
        List<Integer> before = Due.all(x);
        Due.due("order(1)", x.order(1), 0);
        Due.due("why()", x.why(), reason);
        Due.due("nothing has changed", Due.all(x).equals(before) ? 1 : 0, 1);
        Edge.refused(x, "move(1)", () -> x.move(1), reason);
    }

    /** No SEAT that there is not has THE FLOOR. */
    private static void orderChangesNothing() {
        MotionFloor x = Due.sitting(3);
        x.draft(1);
        int[] seats = {-1, 0, 3, LEAST, MOST};
        for (int s : seats) {
            Due.due("order(" + s + ")", x.order(s), 0);
            Due.due("why()", x.why(), 2);
        }
        Due.due("count(8)", x.count(8), 5);
    }

    // Promise 26

    /** "0 if it was not (ahead of any, too)." */
    private static void whyAheadOfAny() {
        MotionFloor x = new MotionFloor();
        Due.due("why()", x.why(), 0);
        x.count(0);
        x.seat(9);
        Due.due("why() behind what is no act", x.why(), 0);
        x.there(0);
        Due.due("why() behind one that is done", x.why(), 0);
    }

    /** "The REASON for which the latest act was refused": of each. */
    private static void whyOfLatest() {
        MotionFloor x = new MotionFloor();
        x.there(5);
        Due.due("9", x.why(), 9);
        x.gone(0);
        Due.due("8", x.why(), 8);
        x.debate(0);
        Due.due("7", x.why(), 7);
        x.there(0);
        Due.due("0", x.why(), 0);
        x.there(0);
        Due.due("11", x.why(), 11);
        x.cede();
        Due.due("2", x.why(), 2);
        x.draft(2);
        Due.due("0", x.why(), 0);
        x.lay(0);
        Due.due("1", x.why(), 1);
    }

    /** "Or order() was 0." */
    private static void whyBehindOrder() {
        MotionFloor x = Due.sitting(3);
        Due.due("order(1)", x.order(1), 0);
        Due.due("why()", x.why(), 11);
        x.draft(1);
        x.floor(1);
        x.floor(2);
        Due.due("why()", x.why(), 2);
        Due.due("order(1)", x.order(1), 1);
        Due.due("why() behind order() of 1", x.why(), 0);
    }

    /** Calls that are no acts leave it, those that are refused as well. */
    private static void whyBehindOtherCalls() {
        MotionFloor x = Due.sitting(3);
        x.there(9);
        Edge.asked(x, "image(2)", () -> x.image(2), -9);
        Edge.asked(x, "image(0)", () -> x.image(0), 4);
        Edge.asked(x, "back(1)", () -> x.back(1), -11);
        Edge.asked(x, "back(-1)", () -> x.back(-1), -9);
        Edge.asked(x, "tell", () -> x.tell(1, 9, 0, 0, 0, -9), 1);
        Edge.asked(x, "check()", () -> x.check(), 0);
        Edge.asked(x, "again()", () -> x.again(), -1);
        Edge.asked(x, "before(4, 0, 0)", () -> x.before(4, 0, 0), -1);
        Edge.asked(x, "strike()", () -> x.strike(), 1);
        Edge.asked(x, "seats(0)", () -> x.seats(0), -9);
        Due.due("why()", x.why(), 9);
    }

    // Promise 27

    /** "PENDING motion i, from 0 (the lowest) on": up to 8. */
    private static void pendingFromLowest() {
        MotionFloor x = Edge.ninePending(8);
        int[] kinds = {1, 2, 3, 4, 2, 3, 5, 2, 8, -1};
        for (int i = 0; i < kinds.length; i++) {
            Due.due("pending(" + i + ", 0)", x.pending(i, 0), kinds[i]);
        }
        for (int i = 0; i < 8; i++) {
            Due.due("pending(" + i + ", 3)", x.pending(i, 3), 1);
        }
        Due.due("pending(8, 3)", x.pending(8, 3), 0);
    }

    /** "2: seconder (NONE)", and SEAT 0 as one. */
    private static void pendingSeconderNone() {
        MotionFloor x = Due.sitting(3);
        x.chair(2);
        Due.write(x, 1, 5);
        Edge.moveAlone(x, 1);
        Due.due("pending(0, 2)", x.pending(0, 2), -1);
        x.second(0);
        Due.due("pending(0, 2)", x.pending(0, 2), 0);
    }

    /** "4, 5: its SPAN (0 of others than AMEND, SECOND)": of an AMEND as it was moved. */
    private static void pendingSpanOfOthers() {
        MotionFloor x = Edge.mainOf(4);
        Due.bringAmend(x, 2, 1, 4, 6, 7, 8);
        Due.bringAmend(x, 3, 2, 3, 9);
        x.rule();
        int[][] spans = {{0, 0}, {1, 4}, {2, 3}, {0, 0}};
        for (int i = 0; i < spans.length; i++) {
            Due.due("pending(" + i + ", 4)", x.pending(i, 4), spans[i][0]);
            Due.due("pending(" + i + ", 5)", x.pending(i, 5), spans[i][1]);
        }
    }

    /** "8: 1 if CLOSED, else 0." */
    private static void pendingClosed() {
        MotionFloor x = Edge.mainOf(1);
        Due.due("pending(0, 8)", x.pending(0, 8), 0);
        Due.bring(x, 6);
        Due.due("pending(0, 8) below a CLOSE", x.pending(0, 8), 0);
        Due.due("pending(1, 8) of a CLOSE", x.pending(1, 8), 0);
        Due.carry(x);
        Due.due("pending(0, 8)", x.pending(0, 8), 1);
    }

    /** "NONE when there is none such." */
    private static void pendingNoneSuch() {
        MotionFloor x = new MotionFloor();
        Due.due("pending(0, 0) of nothing", x.pending(0, 0), -1);
        MotionFloor y = Edge.mainOf(1);
        int[] wrong = {-1, 1, 9, LEAST, MOST};
        for (int i : wrong) {
            for (int what = 0; what < 10; what++) {
                Due.due("pending(" + i + ", " + what + ")", y.pending(i, what), -1);
            }
        }
        y.withdraw(1);
        Due.due("pending(0, 0) of one that is gone", y.pending(0, 0), -1);
    }

    /** "Or for another what." */
    private static void pendingOtherWhat() {
        MotionFloor x = Edge.mainOf(1);
        int[] wrong = {-1, 10, LEAST, MOST};
        for (int what : wrong) {
            Due.due("pending(0, " + what + ")", x.pending(0, what), -1);
        }
        Due.due("pending(0, 9)", x.pending(0, 9), 0);
    }

    // Promise 28

    /** "Word i of the TEXT of PENDING motion m": of one that has none, too. */
    private static void textOfPending() {
        MotionFloor x = Edge.mainOf(400);
        Due.bring(x, 7);
        Due.due("text(0, 0)", x.text(0, 0), 1);
        Due.due("text(0, 399)", x.text(0, 399), 400);
        Due.due("text(0, 400)", x.text(0, 400), -1);
        Due.dueText(x, 1);
    }

    /** "Of the latest ADOPTED one, m NONE." */
    private static void textOfAdopted() {
        MotionFloor x = Edge.mainOf(2);
        Due.dueText(x, -1);
        Due.carry(x);
        Due.dueText(x, -1, 1, 2);
        Due.bring(x, 1, 9);
        Due.dueText(x, -1, 1, 2);
        Due.carry(x);
        Due.dueText(x, -1, 9);
    }

    /** "Of THE DRAFT, m 9 (of a TABLED row none)", with 9 PENDING, too. */
    private static void textOfDraft() {
        MotionFloor x = Edge.ninePending(7);
        Due.dueText(x, 9);
        Due.write(x, 4, 70, 71);
        Due.dueText(x, 9, 70, 71);
        x.lay(0);
        Due.carry(x);
        x.take(1);
        Due.due("count(7)", x.count(7), 7);
        Due.dueText(x, 9);
    }

    /** "NONE when there is none such." */
    private static void textNoneSuch() {
        MotionFloor x = Edge.mainOf(1);
        int[] wrong = {-2, 1, 8, 9, 10, LEAST, MOST};
        for (int m : wrong) {
            Due.dueText(x, m);
        }
        int[] places = {-1, 1, LEAST, MOST};
        for (int i : places) {
            Due.due("text(0, " + i + ")", x.text(0, i), -1);
        }
    }

    // Promise 29

    /** "How SEAT s has voted on the TOP: 1, 0": on it alone, of the last SEAT, too. */
    private static void ballotOfTop() {
        MotionFloor x = Due.sitting(200);
        Due.bring(x, 1, 5);
        x.vote(0, 0);
        x.vote(199, 1);
        Due.due("ballot(0)", x.ballot(0), 0);
        Due.due("ballot(199)", x.ballot(199), 1);
        Due.bring(x, 2, 6);
        Due.due("ballot(0) on the AMEND", x.ballot(0), -1);
        x.vote(0, 1);
        Due.due("ballot(0) on the AMEND", x.ballot(0), 1);
        x.withdraw(1);
        Due.due("ballot(0) on the MAIN", x.ballot(0), 0);
    }

    /** "NONE": it has no vote, there is no such SEAT, nothing is PENDING. */
    private static void ballotNone() {
        MotionFloor x = new MotionFloor();
        Due.due("ballot(0), nothing PENDING", x.ballot(0), -1);
        MotionFloor y = Due.sitting(200);
        Due.bring(y, 1, 5);
        int[] wrong = {-1, 0, 199, 200, LEAST, MOST};
        for (int s : wrong) {
            Due.due("ballot(" + s + ")", y.ballot(s), -1);
        }
        y.vote(0, 1);
        y.vote(0, 2);
        Due.due("ballot(0), none any more", y.ballot(0), -1);
    }

    // Promise 30

    /** "0 nothing": and all else of it 0. */
    private static void deskNothing() {
        MotionFloor x = new MotionFloor();
        for (int p = 0; p < 8; p++) {
            Due.dueDesk(x, p, 0, 0, 0, 0, 0, 0, -1);
        }
    }

    /** "1 a LETTER"; its KIND is 1. */
    private static void deskLetter() {
        MotionFloor x = Edge.mainOf(400);
        Due.bring(x, 4, 5);
        Due.carry(x);
        Due.dueDesk(x, 0, 1, 1, 400, 0, 0, 0, -1);
    }

    /** "2 a motion": its KIND, words, "the SPAN as it is now (0, 0 of others)", "1 if it is OUT OF ORDER, else 0". */
    private static void deskMotion() {
        MotionFloor x = Edge.mainOf(6);
        Due.layAmend(x, 0, 2, 4, 6, 8, 9);
        Due.layAmend(x, 1, 2, 0, 2, 8);
        x.draft(7);
        x.lay(2);
        Due.write(x, 4, 5, 6);
        x.lay(3);
        Due.dueDesk(x, 0, 2, 2, 2, 4, 6, 0, -1);
        Due.dueDesk(x, 1, 2, 2, 1, 0, 2, 0, -1);
        Due.dueDesk(x, 2, 2, 7, 0, 0, 0, 0, -1);
        Due.dueDesk(x, 3, 2, 4, 2, 0, 0, 0, -1);
        Due.bringAmend(x, 2, 1, 3);
        Due.carry(x);
        Due.dueDesk(x, 0, 2, 2, 2, 2, 4, 0, -1);
        Due.dueDesk(x, 1, 2, 2, 1, 0, 2, 1, -1);
    }

    /** "3 TABLED": "of TABLED how many", "of the lowest one", no SPAN. */
    private static void deskTabled() {
        MotionFloor x = Edge.mainOf(3);
        Due.bringAmend(x, 2, 1, 2, 7, 8, 9, 9);
        Due.bring(x, 7);
        Due.carry(x);
        Due.dueDesk(x, 0, 3, 2, 3, 0, 0, 0, -1);
        Due.bring(x, 1);
        Due.bring(x, 7);
        Due.carry(x);
        Due.dueDesk(x, 1, 3, 1, 0, 0, 0, 0, -1);
    }

    /** "NONE for another PLACE or what." */
    private static void deskOther() {
        MotionFloor x = new MotionFloor();
        Edge.fillDesk(x, 0, 8);
        int[] wrong = {-1, 8, LEAST, MOST};
        for (int n : wrong) {
            Due.due("desk(" + n + ", 0)", x.desk(n, 0), -1);
            Due.due("desk(" + n + ", 5)", x.desk(n, 5), -1);
        }
        int[] whats = {-1, 6, LEAST, MOST};
        for (int what : whats) {
            Due.due("desk(0, " + what + ")", x.desk(0, what), -1);
            Due.due("desk(7, " + what + ")", x.desk(7, what), -1);
        }
    }

    // Promise 31

    /** "Word i of what lies on a PLACE (of TABLED: of the lowest one)": the first and the last. */
    private static void lyingWords() {
        int[] kinds = {4, 5, 7};
        for (int kind : kinds) {
            MotionFloor x = Edge.mainOf(400);
            Due.bring(x, 2);
            Due.bring(x, kind);
            Due.carry(x);
            Due.due("lying(0, 0)", x.lying(0, 0), 1);
            Due.due("lying(0, 399)", x.lying(0, 399), 400);
            Due.due("lying(0, 400)", x.lying(0, 400), -1);
        }
    }

    /** "NONE": nothing lies there, it has no such word, there is no such PLACE. */
    private static void lyingNone() {
        MotionFloor x = new MotionFloor();
        Due.due("lying(0, 0) of nothing", x.lying(0, 0), -1);
        x.draft(1);
        x.word(5, 0, 0, 0);
        x.lay(7);
        Edge.fillDesk(x, 0, 1);
        Due.due("lying(7, 0)", x.lying(7, 0), 5);
        Due.due("lying(0, 0) of a RECESS", x.lying(0, 0), -1);
        int[] wrong = {-1, 1, LEAST, MOST};
        for (int i : wrong) {
            Due.due("lying(7, " + i + ")", x.lying(7, i), -1);
        }
        int[] places = {-1, 8, LEAST, MOST};
        for (int p : places) {
            Due.due("lying(" + p + ", 0)", x.lying(p, 0), -1);
        }
        x.take(7);
        Due.due("lying(7, 0) when it was taken", x.lying(7, 0), -1);
    }

    // Promise 32

    /** "0: its ENTRY": the number of the told() itself; "3: y, 4: n (0, 0 of one without a seconder)". */
    private static void resultFacts() {
        MotionFloor x = Due.sitting(4);
        Due.bring(x, 1, 5);
        x.vote(1, 1);
        x.vote(2, 1);
        x.vote(3, 0);
        int entry = x.count(8);
        x.told();
        Due.dueResult(x, 0, entry, 1, 1, 2, 1, -1);
        Due.due("the ENTRY is told()", x.journal(entry, 0), 21);
        x.draft(1);
        Edge.moveAlone(x, 1);
        x.told();
        Due.dueResult(x, 1, x.count(8) - 1, 1, 3, 0, 0, -1);
        Due.dueResult(x, 0, entry, 1, 1, 2, 1, -1);
    }

    /** "NONE when there is none such, or for another what": a told() below the QUORUM is none. */
    private static void resultNoneSuch() {
        MotionFloor x = Due.sitting(4);
        x.quorum(4);
        Due.bring(x, 1, 5);
        x.gone(3);
        x.told();
        Due.due("result(0, 0)", x.result(0, 0), -1);
        x.there(3);
        x.told();
        int[] wrong = {-1, 1, LEAST, MOST};
        for (int i : wrong) {
            for (int what = 0; what < 5; what++) {
                Due.due("result(" + i + ", " + what + ")", x.result(i, what), -1);
            }
        }
        int[] whats = {-1, 5, 6, LEAST, MOST};
        for (int what : whats) {
            Due.due("result(0, " + what + ")", x.result(0, what), -1);
        }
        Due.due("result(0, 2)", x.result(0, 2), 2);
    }

    // Promise 33

    /** Each of a new object: "the CHAIR (NONE)", "who has THE FLOOR (NONE)", "(NONE without)". */
    private static void countAtFirst() {
        MotionFloor x = new MotionFloor();
        Due.due("count(2)", x.count(2), -1);
        Due.due("count(5)", x.count(5), -1);
        Due.due("count(7)", x.count(7), 0);
        Due.due("count(10)", x.count(10), -1);
        Due.due("count(11)", x.count(11), 0);
    }

    /** SEAT 0 as the CHAIR, and with THE FLOOR, is not NONE. */
    private static void countNone() {
        MotionFloor x = Due.sitting(2);
        Due.due("count(2)", x.count(2), 0);
        x.chair(1);
        x.floor(0);
        Due.due("count(5)", x.count(5), 0);
    }

    /** "7: the KIND of THE DRAFT (0 without; 7 of a TABLED row)." */
    private static void countDraft() {
        MotionFloor x = Edge.mainOf(1);
        for (int kind = 1; kind <= 8; kind++) {
            x.draft(kind);
            Due.due("count(7)", x.count(7), kind);
        }
        Due.bring(x, 7);
        Due.due("count(7)", x.count(7), 0);
        Due.carry(x);
        x.take(0);
        Due.due("count(7) of a TABLED row", x.count(7), 7);
        Edge.moveAlone(x, 1);
        Due.due("count(7)", x.count(7), 0);
    }

    /** "10: words of the latest ADOPTED TEXT (NONE without), 11: ADOPTED ones." */
    private static void countAdopted() {
        MotionFloor x = Due.sitting(4);
        Due.bring(x, 1);
        Due.carry(x);
        Due.due("count(10) of one without words", x.count(10), 0);
        Due.due("count(11)", x.count(11), 1);
        Due.bring(x, 1, 5, 6);
        Due.lose(x);
        Due.due("count(10)", x.count(10), 0);
        Due.due("count(11)", x.count(11), 1);
    }

    /** "12: entries of the ROW." */
    private static void countRow() {
        MotionFloor x = new MotionFloor();
        x.tell(0, 0, 0, 0, 0, 0);
        Due.due("count(12)", x.count(12), 1);
        Due.due("count(8)", x.count(8), 0);
        x.seats(4);
        Due.due("count(12)", x.count(12), 1);
        x.strike();
        Due.due("count(12)", x.count(12), 0);
    }

    /** "NONE for another what." */
    private static void countOther() {
        MotionFloor x = Edge.mainOf(1);
        int[] wrong = {-1, 13, 14, LEAST, MOST};
        for (int what : wrong) {
            Due.due("count(" + what + ")", x.count(what), -1);
        }
    }

    // Promise 34

    /** "1 if SEAT s is THERE, else 0." */
    private static void seatThere() {
        MotionFloor x = new MotionFloor();
        x.seats(200);
        x.there(0);
        x.there(199);
        Due.due("seat(0)", x.seat(0), 1);
        Due.due("seat(1)", x.seat(1), 0);
        Due.due("seat(198)", x.seat(198), 0);
        Due.due("seat(199)", x.seat(199), 1);
        x.gone(199);
        Due.due("seat(199)", x.seat(199), 0);
    }

    /** "NONE when there is none such": those of a greater assembly that was before, too. */
    private static void seatNone() {
        MotionFloor x = Due.sitting(5);
        int[] wrong = {-1, 5, 199, 200, LEAST, MOST};
        for (int s : wrong) {
            Due.due("seat(" + s + ")", x.seat(s), -1);
        }
        x.seats(3);
        Due.due("seat(3)", x.seat(3), -1);
        Due.due("seat(2)", x.seat(2), 0);
    }

    // Promise 35

    /** "1 .. 4: its numbers (0 where it has fewer)." */
    private static void journalFewer() {
        MotionFloor x = new MotionFloor();
        x.there(0);
        x.floor(0);
        x.cede();
        x.majority(8, 3);
        x.draft(1);
        x.word(1, 2, 3, 4);
        Due.dueEntry(x, 0, 1, 0, 0, 0, 0, 1, -1);
        Due.dueEntry(x, 2, 8, 0, 0, 0, 0, 0, -1);
        Due.dueEntry(x, 3, 5, 8, 3, 0, 0, 1, -1);
        Due.dueEntry(x, 5, 12, 1, 2, 3, 4, 4, -1);
        int[] numbers = {0, 1, 1, 1, 1, 2, 1, 1, 0, 1, 1, 2, 4, 1, 1, 1, 1, 2, 1, 0, 1, 0, 0};
        MotionFloor y = everyAct();
        boolean[] had = new boolean[23];
        for (int i = 0; i < y.count(8); i++) {
            int act = y.journal(i, 0);
            had[act] = true;
            for (int what = numbers[act] + 1; what <= 4; what++) {
                Due.due("journal(" + i + ", " + what + ") of act " + act, y.journal(i, what), 0);
            }
        }
        for (int act = 1; act <= 22; act++) {
            Due.due("act " + act + " is there", had[act] ? 1 : 0, 1);
        }
    }

    /** A run in which each act is done, with numbers that are not 0. */
    private static MotionFloor everyAct() {
        MotionFloor x = Due.sitting(4);
        x.quorum(1);
        x.limit(5);
        x.majority(1, 2);
        Due.bring(x, 1, 5, 6);
        Due.layAmend(x, 2, 2, 1, 2, 9);
        x.take(2);
        x.lay(3);
        x.floor(3);
        x.debate(3);
        x.cede();
        Due.bring(x, 4);
        x.withdraw(1);
        x.rule();
        x.appeal(1);
        x.vote(1, 0);
        x.told();
        x.gone(3);
        x.adjourn();
        return x;
    }

    /** "NONE when there is none such": no ENTRY of one that was refused. */
    private static void journalNoneSuch() {
        MotionFloor x = new MotionFloor();
        Due.due("journal(0, 0)", x.journal(0, 0), -1);
        x.there(1);
        Due.due("journal(0, 0)", x.journal(0, 0), -1);
        x.there(0);
        int[] wrong = {-1, 1, LEAST, MOST};
        for (int i : wrong) {
            for (int what = 0; what < 6; what++) {
                Due.due("journal(" + i + ", " + what + ")", x.journal(i, what), -1);
            }
        }
    }

    /** "Or for another what." */
    private static void journalOther() {
        MotionFloor x = Due.sitting(3);
        Due.bring(x, 1, 5);
        int[] wrong = {-1, 6, 7, LEAST, MOST};
        for (int what : wrong) {
            Due.due("journal(0, " + what + ")", x.journal(0, what), -1);
            Due.due("the last one's", x.journal(x.count(8) - 1, what), -1);
        }
    }

    // Promise 36

    /** "Behind the first e ENTRIES": 0 and all of them. */
    private static void beforeEnds() {
        MotionFloor x = Edge.mainOf(2);
        Due.carry(x);
        int all = x.count(8);
        Due.due("before all", x.before(0, -1, 0), -1);
        Due.due("before all, THE DRAFT", x.before(0, 9, 0), -1);
        Due.due("behind all", x.before(all, -1, 0), 1);
        Due.due("ahead of the last", x.before(all - 1, -1, 0), -1);
        Due.due("ahead of the last, PENDING", x.before(all - 1, 0, 1), 2);
    }

    /** "NONE when there are not so many, or e is below 0." */
    private static void beforeNotSoMany() {
        MotionFloor x = Edge.mainOf(2);
        Due.carry(x);
        int[] wrong = {-1, x.count(8) + 1, LEAST, MOST};
        for (int e : wrong) {
            Edge.asked(x, "before(" + e + ", -1, 0)", () -> x.before(e, -1, 0), -1);
        }
    }

    /** "text(m, i) as it was": of all numbers of word(), wherever one is 0. */
    private static void beforeWords() {
        MotionFloor x = new MotionFloor();
        x.draft(1);
        x.word(1, 2, 3, 4);
        x.word(5, 0, 6, 0);
        x.word(7, 0, 0, 8);
        for (int i = 0; i < 8; i++) {
            Due.due("before(4, 9, " + i + ")", x.before(4, 9, i), i + 1);
            Due.due("before(3, 9, " + i + ")", x.before(3, 9, i), i < 6 ? i + 1 : -1);
        }
        Edge.asked(x, "again()", () -> x.again(), -1);
    }

    /** The same: its own NONE, too; what there is stays. */
    private static void beforeAsItWas() {
        MotionFloor x = Edge.mainOf(2);
        int entries = x.count(8);
        Due.bringAmend(x, 2, 0, 1, 9);
        Due.carry(x);
        x.draft(4);
        x.word(8, 0, 0, 0);
        Edge.asked(x, "the MAIN before", () -> x.before(entries, 0, 0), 1);
        Edge.asked(x, "the MAIN now", () -> x.before(x.count(8), 0, 0), 9);
        Edge.asked(x, "THE DRAFT now", () -> x.before(x.count(8), 9, 0), 8);
        Edge.asked(x, "THE DRAFT before", () -> x.before(x.count(8) - 1, 9, 0), -1);
        int[] wrong = {-2, 1, 8, 10, LEAST, MOST};
        for (int m : wrong) {
            Due.due("before(entries, " + m + ", 0)", x.before(entries, m, 0), -1);
            Due.due("before(entries, 0, " + m + ")", x.before(entries, 0, m == 1 ? 2 : m), -1);
        }
    }

    // Promise 37

    /** "NONE without one": of no ENTRIES, and of many. */
    private static void againNone() {
        MotionFloor x = new MotionFloor();
        Edge.asked(x, "again() of none", () -> x.again(), -1);
        MotionFloor y = Edge.ninePending(7);
        y.vote(1, 1);
        Due.carry(y);
        y.take(0);
        Edge.moveAlone(y, 3);
        y.draft(8);
        Edge.asked(y, "again()", () -> y.again(), -1);
    }

    /** The same behind back() and seats(): "of as many SEATS" as there are then. */
    private static void againOfImage() {
        MotionFloor x = Due.sitting(9);
        Due.bring(x, 1, 5);
        x.vote(8, 1);
        x.image(0);
        x.seats(2);
        x.there(1);
        Edge.asked(x, "again() of 2 SEATS", () -> x.again(), -1);
        x.back(0);
        x.vote(7, 1);
        Edge.asked(x, "again() of 9 SEATS", () -> x.again(), -1);
    }

    // Promise 38

    /** "One more entry of the ROW: how many." */
    private static void tellHowMany() {
        MotionFloor x = new MotionFloor();
        Edge.asked(x, "tell", () -> x.tell(1, 0, 0, 0, 0, 1), 1);
        Edge.asked(x, "tell", () -> x.tell(1, 0, 0, 0, 0, 1), 2);
        Due.due("count(12)", x.count(12), 2);
    }

    /** "-10 when there would be more than 600." (More than 512 calls, of which nothing is promised.) */
    private static void tellTooMany() {
        MotionFloor x = new MotionFloor();
        for (int i = 1; i <= 600; i++) {
            Due.due("tell " + i, x.tell(10, 1, 0, 0, 0, 1), i);
        }
        Edge.asked(x, "tell 601", () -> x.tell(10, 1, 0, 0, 0, 1), -10);
        Due.due("count(12)", x.count(12), 600);
        Edge.asked(x, "check()", () -> x.check(), -1);
        Due.due("strike()", x.strike(), 600);
        Edge.asked(x, "tell", () -> x.tell(10, 1, 0, 0, 0, 1), 1);
    }

    /** Numbers of every size are told, and looked at by check() alone. */
    private static void tellAnything() {
        MotionFloor x = new MotionFloor();
        Edge.asked(x, "tell MIN", () -> x.tell(LEAST, LEAST, LEAST, LEAST, LEAST, LEAST), 1);
        Edge.asked(x, "tell MAX", () -> x.tell(MOST, MOST, MOST, MOST, MOST, MOST), 2);
        Edge.asked(x, "check()", () -> x.check(), 0);
    }

    // Promise 39

    /** "NONE without one": of an empty ROW. */
    private static void checkEmpty() {
        MotionFloor x = new MotionFloor();
        Edge.asked(x, "check()", () -> x.check(), -1);
    }

    /** The ROW is there(0), there(1), then this entry, then one that is no act. */
    private static void dueCheck(int want, int... entry) {
        MotionFloor x = new MotionFloor();
        x.seats(3);
        x.tell(1, 0, 0, 0, 0, 1);
        x.tell(1, 1, 0, 0, 0, 2);
        x.tell(entry[0], entry[1], entry[2], entry[3], entry[4], entry[5]);
        x.tell(0, 0, 0, 0, 0, 0);
        Edge.asked(x, "check() of act " + entry[0], () -> x.check(), want);
    }

    /** "The first of its entries that is no act." */
    private static void checkNoAct() {
        dueCheck(2, 0, 0, 0, 0, 0, 0);
        dueCheck(2, 23, 0, 0, 0, 0, 0);
        dueCheck(2, -1, 0, 0, 0, 0, 0);
        dueCheck(2, LEAST, 0, 0, 0, 0, 0);
        dueCheck(2, MOST, 0, 0, 0, 0, 0);
        dueCheck(3, 1, 2, 0, 0, 0, 3);
        dueCheck(3, 10, 8, 0, 0, 0, 8);
    }

    /** "Is refused": though the answer told is that of the refusal. */
    private static void checkRefused() {
        dueCheck(2, 1, 0, 0, 0, 0, -11);
        dueCheck(2, 1, 3, 0, 0, 0, -9);
        dueCheck(2, 2, 2, 0, 0, 0, -8);
        dueCheck(2, 8, 0, 0, 0, 0, -2);
        dueCheck(2, 21, 0, 0, 0, 0, -8);
        dueCheck(2, 22, 0, 0, 0, 0, -8);
        dueCheck(2, 15, 1, 0, 0, 0, -11);
    }

    /** "Has a number other than 0 where its act has none." */
    private static void checkNumberTooMany() {
        dueCheck(3, 4, 1, 0, 0, 0, 1);
        dueCheck(2, 4, 1, 1, 0, 0, 1);
        dueCheck(2, 4, 1, 0, -1, 0, 1);
        dueCheck(2, 4, 1, 0, 0, MOST, 1);
        dueCheck(3, 5, 1, 2, 0, 0, 1);
        dueCheck(2, 5, 1, 2, 1, 0, 1);
        dueCheck(2, 5, 1, 2, 0, LEAST, 1);
    }

    /** "Or answers otherwise." */
    private static void checkOtherwise() {
        dueCheck(2, 1, 2, 0, 0, 0, 2);
        dueCheck(2, 1, 2, 0, 0, 0, 4);
        dueCheck(2, 1, 2, 0, 0, 0, MOST);
        dueCheck(2, 1, 2, 0, 0, 0, -3);
        dueCheck(2, 1, 2, 0, 0, 0, LEAST);
    }

    /** The same: an answer of 0 is one, of an act that is done. */
    private static void checkAnswerOfNought() {
        dueCheck(3, 7, 1, 0, 0, 0, 0);
        dueCheck(3, 4, 0, 0, 0, 0, 0);
        dueCheck(3, 3, 0, 0, 0, 0, 0);
        dueCheck(2, 1, 2, 0, 0, 0, 0);
    }

    /** The same: each number of word() is one of its own. */
    private static void checkEachNumber() {
        int[][] words = {{1, 2, 3, 4}, {1, 2, 0, 0}, {1, 0, 2, 0}, {1, 0, 0, 2}, {1, 0, 2, 3}, {1, 0, 0, 0}};
        int[] answers = {4, 2, 2, 2, 3, 1};
        for (int i = 0; i < words.length; i++) {
            for (int wrong = -1; wrong < 4; wrong++) {
                int[] n = words[i].clone();
                if (wrong >= 0) {
                    n[wrong] = 30001;
                }
                MotionFloor x = new MotionFloor();
                x.tell(10, 1, 0, 0, 0, 1);
                x.tell(12, n[0], n[1], n[2], n[3], answers[i]);
                Edge.asked(x, "check() of word", () -> x.check(), wrong < 0 ? -1 : 1);
            }
        }
    }

    /** "The first of its entries": entry 0, too, whatever follows. */
    private static void checkFirst() {
        MotionFloor x = new MotionFloor();
        x.tell(1, 0, 0, 0, 0, 2);
        x.tell(0, 0, 0, 0, 0, 0);
        Edge.asked(x, "check()", () -> x.check(), 0);
    }

    /** "In a new assembly of as many SEATS": who is THERE now is not in it. */
    private static void checkNewAssembly() {
        MotionFloor x = Due.sitting(3);
        x.tell(1, 2, 0, 0, 0, 1);
        x.tell(4, 2, 0, 0, 0, 2);
        Edge.asked(x, "check()", () -> x.check(), -1);
        x.seats(2);
        Edge.asked(x, "check() of fewer SEATS", () -> x.check(), 0);
        x.seats(200);
        Edge.asked(x, "check() of more SEATS", () -> x.check(), -1);
    }

    /** "(What there is stays.)" */
    private static void checkStays() {
        MotionFloor x = Edge.ninePending(7);
        x.tell(1, 0, 0, 0, 0, 1);
        x.tell(10, 1, 0, 0, 0, 1);
        x.floor(9);
        Edge.asked(x, "check()", () -> x.check(), -1);
        Due.due("count(12)", x.count(12), 2);
        Edge.asked(x, "check() again", () -> x.check(), -1);
    }

    // Promise 40

    /** "The ROW is empty: how many it had": none. */
    private static void strikeEmpty() {
        MotionFloor x = new MotionFloor();
        Edge.asked(x, "strike()", () -> x.strike(), 0);
    }

    /** The same of some; what is told then begins anew. */
    private static void strikeHad() {
        MotionFloor x = new MotionFloor();
        x.tell(0, 0, 0, 0, 0, 0);
        x.tell(0, 0, 0, 0, 0, 0);
        Edge.asked(x, "strike()", () -> x.strike(), 2);
        Due.due("count(12)", x.count(12), 0);
        Edge.asked(x, "check()", () -> x.check(), -1);
        Edge.asked(x, "tell", () -> x.tell(1, 0, 0, 0, 0, 1), 1);
        Edge.asked(x, "check()", () -> x.check(), -1);
    }

    // Promise 41

    /** "Image 0 or 1 ..; -9 for others." */
    private static void imageWhich() {
        MotionFloor x = new MotionFloor();
        int[] wrong = {-1, 2, LEAST, MOST};
        for (int k : wrong) {
            Edge.asked(x, "image(" + k + ")", () -> x.image(k), -9);
        }
        Edge.asked(x, "back(0)", () -> x.back(0), -11);
        Edge.asked(x, "back(1)", () -> x.back(1), -11);
    }

    /** "How many ENTRIES it has": none, and some. */
    private static void imageEntries() {
        MotionFloor x = new MotionFloor();
        Edge.asked(x, "image(0)", () -> x.image(0), 0);
        x.there(0);
        x.there(0);
        Edge.asked(x, "image(1)", () -> x.image(1), 1);
    }

    /** "All that there is ..": of a floor that has of everything, and of one that has nothing. */
    private static void imageOfAll() {
        MotionFloor x = ofEverything();
        MotionFloor y = ofEverything();
        List<Integer> all = Due.all(x);
        x.image(0);
        x.seats(200);
        List<Integer> none = Due.all(x);
        x.image(1);
        x.back(0);
        Due.due("all is as it was", Due.all(x).equals(all) ? 1 : 0, 1);
        x.back(1);
        Due.due("nothing is as it was", Due.all(x).equals(none) ? 1 : 0, 1);
        for (int s = 0; s < 200; s++) {
            x.there(s);
        }
        x.chair(5);
        x.majority(8, 3);
        x.back(0);
        Due.due("all is as it was", Due.all(x).equals(all) ? 1 : 0, 1);
        goOn(x);
        goOn(y);
        Due.due("it goes on as it would have", Due.all(x).equals(Due.all(y)) ? 1 : 0, 1);
    }

    /** Settings, an ADOPTED one, all sorts on THE DESK, PENDING ones with FLOORS, SPEECHES, VOTES, CLOSED, a DRAFT. */
    private static MotionFloor ofEverything() {
        MotionFloor x = Due.sitting(7);
        x.gone(6);
        x.quorum(2);
        x.limit(8);
        x.majority(2, 3);
        Due.bring(x, 1, 1, 2);
        Due.carry(x);
        Due.bring(x, 1, 3, 4);
        Due.bring(x, 4);
        Due.carry(x);
        Due.bring(x, 1, 5, 6);
        Due.bring(x, 5);
        Due.carry(x);
        Due.bring(x, 1, 7, 8);
        Due.bring(x, 4, 9);
        x.vote(4, 0);
        Due.bring(x, 7);
        Due.carry(x);
        Due.bring(x, 1, 11, 12, 13, 14);
        Due.layAmend(x, 3, 2, 0, 2, 15);
        Due.layAmend(x, 4, 2, 3, 4, 16);
        Due.layAmend(x, 5, 2, 2, 3, 17);
        Due.bringAmend(x, 2, 1, 2, 18, 19);
        for (int s = 0; s < 4; s++) {
            x.vote(s, 1);
        }
        x.told();
        Due.bringAmend(x, 2, 0, 1, 20, 21);
        x.floor(3);
        x.debate(3);
        x.cede();
        x.vote(5, 0);
        Due.bring(x, 6);
        Due.carry(x);
        x.chair(3);
        x.take(4);
        x.rule();
        x.floor(5);
        return x;
    }

    /** What can be told by what is done alone: whose SUBJECTS they are, MAJORITIES, what is OUT OF ORDER or CLOSED. */
    private static void goOn(MotionFloor x) {
        x.appeal(1);
        x.vote(2, 0);
        Due.due("told()", x.told(), 5);
        Edge.refused(x, "floor(2) on a CLOSED one", () -> x.floor(2), Edge.CLOSED);
        x.vote(1, 1);
        x.vote(2, 1);
        x.vote(4, 1);
        Due.due("an AMEND by 3 to 1 of 7", x.told(), 2);
        x.floor(1);
        Edge.done(x, "move(1) of THE DRAFT", () -> x.move(1), 2);
        x.withdraw(1);
        x.take(3);
        x.floor(1);
        Edge.refused(x, "move(1) of one OUT OF ORDER", () -> x.move(1), Edge.SPAN);
        x.lay(3);
        x.take(5);
        Edge.done(x, "move(1) of one in order", () -> x.move(1), 2);
        x.adjourn();
        x.take(2);
        x.floor(1);
        Edge.done(x, "move(1) of a TABLED row", () -> x.move(1), 2);
    }

    /** It is kept in place of what image k was; the other one stays. */
    private static void imageAnew() {
        MotionFloor x = new MotionFloor();
        x.image(0);
        x.image(1);
        x.there(0);
        Edge.asked(x, "image(1) anew", () -> x.image(1), 1);
        Due.due("back(0)", x.back(0), 0);
        Due.due("count(1)", x.count(1), 0);
        Due.due("back(1)", x.back(1), 1);
        Due.due("count(1)", x.count(1), 1);
    }

    // Promise 42

    /** "-9 for others." */
    private static void backWhich() {
        MotionFloor x = Due.sitting(3);
        x.image(0);
        x.image(1);
        x.floor(1);
        int[] wrong = {-1, 2, LEAST, MOST};
        for (int k : wrong) {
            Edge.asked(x, "back(" + k + ")", () -> x.back(k), -9);
        }
    }

    /** "-11 when it was not kept." */
    private static void backNotKept() {
        MotionFloor x = Due.sitting(3);
        x.image(0);
        Edge.asked(x, "back(1)", () -> x.back(1), -11);
        x.seats(2);
        Edge.asked(x, "back(1)", () -> x.back(1), -11);
        Due.due("back(0)", x.back(0), 4);
    }

    /** "How many ENTRIES. (It stays": it can be had again, as it was kept. */
    private static void backStays() {
        MotionFloor x = Edge.ninePending(7);
        x.vote(3, 1);
        List<Integer> kept = Due.all(x);
        int entries = x.count(8);
        x.image(0);
        for (int i = 0; i < 3; i++) {
            Due.carry(x);
            x.take(0);
            x.adjourn();
            Due.due("back(0)", x.back(0), entries);
            Due.due("all is as it was", Due.all(x).equals(kept) ? 1 : 0, 1);
        }
    }

    /** "why() is 0 then.)": it was another as the image was kept, and as it was asked for. */
    private static void backWhy() {
        MotionFloor x = Due.sitting(3);
        x.there(9);
        x.image(0);
        Due.due("why()", x.why(), 9);
        x.gone(9);
        Due.due("back(0)", x.back(0), 4);
        Due.due("why()", x.why(), 0);
    }

    /** "(But images and the ROW)." */
    private static void backLeavesRowAndImages() {
        MotionFloor x = Due.sitting(3);
        x.tell(0, 0, 0, 0, 0, 0);
        x.image(0);
        x.tell(0, 0, 0, 0, 0, 0);
        x.floor(1);
        x.image(1);
        Due.due("back(0)", x.back(0), 4);
        Due.due("count(12)", x.count(12), 2);
        Due.due("back(1)", x.back(1), 5);
        Due.due("count(5)", x.count(5), 1);
        x.strike();
        x.back(0);
        Due.due("count(12)", x.count(12), 0);
    }

    /** What is back goes on as it would have gone on: LAID ones know their SUBJECT, and what follows is no part of it. */
    private static void backGoesOn() {
        MotionFloor x = Edge.mainOf(4);
        Due.layAmend(x, 0, 2, 2, 3, 9);
        x.majority(1, 2);
        x.image(0);
        Due.lose(x);
        Due.bring(x, 1, 1, 2, 3, 4);
        x.back(0);
        Due.bringAmend(x, 2, 0, 1);
        Due.carry(x);
        Due.dueDesk(x, 0, 2, 2, 1, 1, 2, 0);
        x.take(0);
        x.floor(1);
        Edge.done(x, "move(1)", () -> x.move(1), 2);
        x.back(0);
        Due.dueDesk(x, 0, 2, 2, 1, 2, 3, 0);
        Due.due("count(6)", x.count(6), 1);
    }
}
