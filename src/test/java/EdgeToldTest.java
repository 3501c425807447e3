/** The edges that the document names in II, ACTS 21 and 22 and the words behind them: a method for each sentence or part. */
public final class EdgeToldTest {
    public static void main(String[] args) {
        refusals();
        outcomes();
        carried();
        behind();
        Due.end();
    }

    private static void refusals() {
        toldNoChair();
        toldNothing();
        toldBelowQuorum();
        toldFirstReason();
    }

    private static void outcomes() {
        toldNoSeconder();
        toldRulingNotAppealed();
        toldVotesOfThere();
        toldCarriedOrLost();
        toldOverturned();
        toldStands();
    }

    private static void carried() {
        carriedMain();
        carriedAmend();
        carriedSecond();
        carriedClose();
        carriedRecess();
        carriedCommit();
        carriedPostpone();
        carriedTable();
        firstFreePlace();
    }

    private static void behind() {
        nobodyHasFloor();
        adjournNoChair();
        adjournAll();
        adjournNothing();
        adjournDraft();
        goneSeatsKeepVotes();
        othersLeaveDesk();
    }

    // 21 told()

    /** "8 no CHAIR that is THERE": none, and one that is gone. */
    private static void toldNoChair() {
        MotionFloor x = new MotionFloor();
        x.seats(3);
        x.there(1);
        x.there(2);
        Due.bring(x, 1, 5);
        Edge.refused(x, "told(), no CHAIR", () -> x.told(), Edge.THERE);
        x.there(0);
        x.chair(0);
        x.gone(0);
        Edge.refused(x, "told(), it is gone", () -> x.told(), Edge.THERE);
        x.there(0);
        Edge.done(x, "told()", () -> x.told(), 2);
    }

    /** "7." */
    private static void toldNothing() {
        MotionFloor x = Due.sitting(3);
        Edge.refused(x, "told()", () -> x.told(), Edge.PENDING);
        x.quorum(4);
        Edge.refused(x, "told() below the QUORUM", () -> x.told(), Edge.PENDING);
    }

    /** "0 with fewer THERE than the QUORUM: nothing else happens." With as many it is told. */
    private static void toldBelowQuorum() {
        MotionFloor x = Due.sitting(4);
        x.quorum(4);
        Due.bring(x, 1, 5);
        x.vote(1, 1);
        x.floor(3);
        x.gone(2);
        int entries = x.count(8);
        Edge.done(x, "3 of 4", () -> x.told(), 0);
        Due.dueEntry(x, entries, 21, 0, 0, 0, 0, 0);
        Due.due("count(5)", x.count(5), 3);
        Due.due("count(6)", x.count(6), 1);
        Due.due("count(9)", x.count(9), 0);
        Due.due("count(11)", x.count(11), 0);
        Due.duePending(x, 0, 1, 1, 2, 1, 0, 0, 1, 0, 0, 1);
        x.rule();
        Edge.done(x, "a RULING, 3 of 4", () -> x.told(), 0);
        Due.due("count(6)", x.count(6), 2);
        x.there(2);
        Edge.done(x, "a RULING, 4 of 4", () -> x.told(), 4);
        Due.due("count(6)", x.count(6), 0);
    }

    /** "In each act in the order told there." */
    private static void toldFirstReason() {
        MotionFloor x = Due.sitting(3);
        x.gone(0);
        Edge.refused(x, "8 before 7", () -> x.told(), Edge.THERE);
        x.there(0);
        x.quorum(3);
        Due.bring(x, 1, 5);
        x.gone(0);
        Edge.refused(x, "8 before the 0 below the QUORUM", () -> x.told(), Edge.THERE);
    }

    /** "3 it has no seconder: gone", of each KIND; nothing of what it would do happens. */
    private static void toldNoSeconder() {
        for (int kind = 1; kind <= 8; kind++) {
            MotionFloor x = Due.sitting(4);
            if (kind > 1) {
                Due.bring(x, 1, 5);
            }
            if (kind == 3) {
                Due.bring(x, 2, 6);
            }
            int below = x.count(6);
            x.draft(kind);
            Edge.moveAlone(x, 1);
            Edge.done(x, "told() of " + kind, () -> x.told(), 3);
            Due.due("count(6)", x.count(6), below);
            Due.dueResult(x, 0, x.count(8) - 1, kind, 3, 0, 0, -1);
            Due.due("nothing is ADOPTED", x.count(11), 0);
            Due.due("all are THERE", x.count(1), 4);
            Due.dueDesk(x, 0, 0, 0);
            Due.due("no CLOSED one", x.pending(0, 8), kind == 1 ? -1 : 0);
        }
    }

    /** "(A RULING: 4)": it STANDS, and has no y and n. */
    private static void toldRulingNotAppealed() {
        MotionFloor x = Edge.mainOf(2);
        x.vote(1, 1);
        x.rule();
        Edge.done(x, "told()", () -> x.told(), 4);
        Due.due("the motion below is gone, too", x.count(6), 0);
        Due.dueResult(x, 0, x.count(8) - 1, 9, 4, 0, 0, -1);
        Due.due("nothing is ADOPTED", x.count(11), 0);
    }

    /** "By the VOTES of SEATS that are THERE, y yes and n no." */
    private static void toldVotesOfThere() {
        MotionFloor x = Due.sitting(6);
        Due.bring(x, 1, 5);
        x.vote(0, 1);
        x.vote(1, 1);
        x.vote(2, 1);
        x.vote(3, 0);
        x.vote(4, 0);
        x.vote(5, 0);
        x.vote(5, 2);
        x.gone(1);
        x.gone(2);
        x.gone(3);
        x.there(2);
        Edge.done(x, "told()", () -> x.told(), 1);
        Due.dueResult(x, 0, x.count(8) - 1, 1, 1, 2, 1, -1);
    }

    /** "1 CARRIED (by its MAJORITY), 2 LOST: gone": by that of its own KIND. */
    private static void toldCarriedOrLost() {
        MotionFloor x = Due.sitting(5);
        x.majority(1, 3);
        x.majority(2, 2);
        Due.bring(x, 1, 5);
        Due.bring(x, 2, 6);
        x.vote(1, 1);
        Edge.done(x, "an AMEND by 1 to 0 of 5", () -> x.told(), 1);
        x.vote(1, 1);
        x.vote(2, 1);
        Edge.done(x, "a MAIN by 2 to 0 of 5", () -> x.told(), 2);
        Due.due("it is gone", x.count(6), 0);
        Due.due("it is not ADOPTED", x.count(11), 0);
        Due.bring(x, 1, 5);
        Edge.done(x, "a MAIN without VOTES", () -> x.told(), 2);
    }

    private static MotionFloor appealed(int yes, int no) {
        MotionFloor x = Due.sitting(6);
        Due.bring(x, 1, 5);
        x.rule();
        x.appeal(1);
        for (int s = 0; s < yes; s++) {
            x.vote(s, 1);
        }
        for (int s = yes; s < yes + no; s++) {
            x.vote(s, 0);
        }
        return x;
    }

    /** "Of a RULING 5 OVERTURNED if n is above y: it is gone." */
    private static void toldOverturned() {
        MotionFloor x = appealed(2, 3);
        Edge.done(x, "2 to 3", () -> x.told(), 5);
        Due.due("the motion below stays", x.count(6), 1);
        Due.dueResult(x, 0, x.count(8) - 1, 9, 5, 2, 3, -1);
        MotionFloor y = appealed(0, 1);
        Edge.done(y, "0 to 1", () -> y.told(), 5);
    }

    /** "Else 4 it STANDS: it is gone, and the motion below": by a tie and without VOTES, too; just that one. */
    private static void toldStands() {
        MotionFloor x = appealed(3, 3);
        Edge.done(x, "3 to 3", () -> x.told(), 4);
        Due.due("count(6)", x.count(6), 0);
        Due.dueResult(x, 0, x.count(8) - 1, 9, 4, 3, 3, -1);
        MotionFloor y = appealed(0, 0);
        Edge.done(y, "0 to 0", () -> y.told(), 4);
        MotionFloor z = Edge.mainOf(1);
        Due.bring(z, 2, 5);
        z.rule();
        Edge.done(z, "on an AMEND", () -> z.told(), 4);
        Due.due("the MAIN is PENDING", z.count(6), 1);
        Due.dueText(z, 0, 1);
    }

    /** "MAIN: its TEXT is ADOPTED": one without words, and one of 400. */
    private static void carriedMain() {
        MotionFloor x = Edge.mainOf(400);
        Due.carry(x);
        Due.due("count(10)", x.count(10), 400);
        Due.due("text(-1, 399)", x.text(-1, 399), 400);
        Due.due("text(-1, 400)", x.text(-1, 400), -1);
        Due.bring(x, 1);
        Due.carry(x);
        Due.due("count(10)", x.count(10), 0);
        Due.due("count(11)", x.count(11), 2);
        Due.dueText(x, -1);
    }

    /** "AMEND: its SUBJECT's TEXT is changed": words come in, go, all of them, to none. */
    private static void carriedAmend() {
        MotionFloor x = Edge.mainOf(3);
        Due.bringAmend(x, 2, 0, 0, 9);
        Due.carry(x);
        Due.dueText(x, 0, 9, 1, 2, 3);
        Due.bringAmend(x, 2, 4, 4, 8);
        Due.carry(x);
        Due.dueText(x, 0, 9, 1, 2, 3, 8);
        Due.bringAmend(x, 2, 1, 2);
        Due.carry(x);
        Due.dueText(x, 0, 9, 2, 3, 8);
        Due.bringAmend(x, 2, 2, 2);
        Due.carry(x);
        Due.dueText(x, 0, 9, 2, 3, 8);
        Due.bringAmend(x, 2, 0, 4);
        Due.carry(x);
        Due.dueText(x, 0);
        Due.bringAmend(x, 2, 0, 0, 7);
        Due.carry(x);
        Due.dueText(x, 0, 7);
        Due.bring(x, 4, 5, 6);
        Due.bringAmend(x, 2, 0, 2, 4);
        Due.carry(x);
        Due.dueText(x, 1, 4);
        Due.dueText(x, 0, 7);
    }

    /** "SECOND: its SUBJECT's TEXT is changed": the AMEND's, not the MAIN's. */
    private static void carriedSecond() {
        MotionFloor x = Edge.mainOf(3);
        Due.bringAmend(x, 2, 1, 2, 8, 9);
        Due.bringAmend(x, 3, 0, 2);
        Due.carry(x);
        Due.dueText(x, 0, 1, 2, 3);
        Due.dueText(x, 1);
        Due.duePending(x, 1, 2, 1, 2, 0, 1, 2);
        Due.carry(x);
        Due.dueText(x, 0, 1, 3);
    }

    /** "CLOSE: the motion below is CLOSED": it alone, and it is voted on still. */
    private static void carriedClose() {
        MotionFloor x = Edge.mainOf(1);
        Due.bring(x, 2, 5);
        Due.bring(x, 6);
        Due.carry(x);
        Due.due("pending(1, 8)", x.pending(1, 8), 1);
        Due.due("pending(0, 8)", x.pending(0, 8), 0);
        Due.due("count(6)", x.count(6), 2);
        Edge.done(x, "vote(3, 1)", () -> x.vote(3, 1), 1);
        Edge.done(x, "told()", () -> x.told(), 1);
    }

    /** "RECESS: nobody is THERE, or has THE FLOOR." */
    private static void carriedRecess() {
        MotionFloor x = Edge.mainOf(1);
        x.vote(3, 1);
        Due.bring(x, 8);
        x.floor(3);
        Due.carry(x);
        Due.due("count(1)", x.count(1), 0);
        Due.due("count(5)", x.count(5), -1);
        Due.due("count(2)", x.count(2), 0);
        Edge.refused(x, "told()", () -> x.told(), Edge.THERE);
        Edge.refused(x, "adjourn()", () -> x.adjourn(), Edge.THERE);
        Edge.refused(x, "gone(3)", () -> x.gone(3), Edge.THERE);
        Edge.done(x, "there(3)", () -> x.there(3), 1);
        Due.due("ballot(3)", x.ballot(3), 1);
        Edge.done(x, "there(0)", () -> x.there(0), 2);
        Edge.done(x, "told()", () -> x.told(), 1);
    }

    /** "COMMIT: all are gone, the lowest one's TEXT is a LETTER on the first free PLACE": not its own, one without words, too. */
    private static void carriedCommit() {
        MotionFloor x = Edge.mainOf(2);
        Due.bringAmend(x, 2, 0, 1, 9);
        Due.bring(x, 4, 7, 8);
        Due.carry(x);
        Due.due("count(6)", x.count(6), 0);
        Due.dueDesk(x, 0, 1, 1, 2, 0, 0, 0);
        Due.due("lying(0, 0)", x.lying(0, 0), 1);
        Due.due("lying(0, 1)", x.lying(0, 1), 2);
        Due.dueDesk(x, 1, 0, 0);
        Due.bring(x, 1);
        Due.bring(x, 4);
        Due.carry(x);
        Due.dueDesk(x, 1, 1, 1, 0, 0, 0, 0);
    }

    /** "POSTPONE: .. lies there (with its TEXT, mover, seconder; FLOORS, SPEECHES 0, no VOTES, not CLOSED)." */
    private static void carriedPostpone() {
        MotionFloor x = Edge.mainOf(2);
        x.floor(3);
        x.debate(3);
        x.cede();
        x.vote(3, 1);
        Due.bring(x, 2, 9);
        Due.bring(x, 5, 7, 8);
        Due.carry(x);
        Due.due("count(6)", x.count(6), 0);
        Due.dueDesk(x, 0, 2, 1, 2, 0, 0, 0);
        x.take(0);
        Due.dueText(x, 9, 1, 2);
        Edge.moveAlone(x, 3);
        Due.duePending(x, 0, 1, 3, 2, 2, 0, 0, 0, 0, 0, 0);
        Due.due("ballot(3)", x.ballot(3), -1);
        MotionFloor y = Edge.mainOf(1);
        Due.bring(y, 5);
        Due.bring(y, 6);
        Due.carry(y);
        Due.carry(y);
        y.take(0);
        Edge.moveAlone(y, 1);
        Edge.done(y, "it is not CLOSED", () -> y.floor(3), 1);
    }

    /** "TABLE: those below it lie there, TABLED": the least row, and the greatest. */
    private static void carriedTable() {
        MotionFloor x = Edge.mainOf(2);
        Due.bring(x, 7);
        Due.carry(x);
        Due.due("count(6)", x.count(6), 0);
        Due.dueDesk(x, 0, 3, 1, 2, 0, 0, 0);
        MotionFloor y = Edge.ninePending(7);
        Due.carry(y);
        Due.due("count(6)", y.count(6), 0);
        Due.dueDesk(y, 0, 3, 8, 1, 0, 0, 0);
        Due.due("lying(0, 0)", y.lying(0, 0), 1);
    }

    /** "On the first free PLACE", "lies there": 0, one between, and the last. */
    private static void firstFreePlace() {
        int[] kinds = {4, 5, 7};
        for (int kind : kinds) {
            for (int free = 0; free < 8; free++) {
                MotionFloor x = Due.sitting(4);
                Edge.fillDesk(x, 0, 8);
                x.take(free);
                x.draft(1);
                x.word(5, 0, 0, 0);
                Due.bring(x);
                Due.bring(x, kind);
                Due.carry(x);
                Due.due("desk(" + free + ", 0)", x.desk(free, 0), kind == 4 ? 1 : kind == 5 ? 2 : 3);
                Due.due("lying(" + free + ", 0)", x.lying(free, 0), 5);
            }
            MotionFloor y = Due.sitting(4);
            Edge.fillDesk(y, 0, 8);
            y.take(6);
            y.draft(8);
            y.adjourn();
            y.take(2);
            y.draft(1);
            Due.bring(y);
            Due.bring(y, kind);
            Due.carry(y);
            Due.due("the first of two", y.desk(2, 0), kind == 4 ? 1 : kind == 5 ? 2 : 3);
            Due.due("the other", y.desk(6, 0), 0);
        }
    }

    /** "Nobody has THE FLOOR behind a result", whichever it is. */
    private static void nobodyHasFloor() {
        for (int result = 1; result <= 5; result++) {
            MotionFloor x = Due.sitting(4);
            Due.write(x, 1, 5);
            Edge.moveAlone(x, 1);
            if (result != 3) {
                x.second(2);
            }
            if (result > 3) {
                x.rule();
            }
            if (result == 5) {
                x.appeal(1);
                x.vote(1, 0);
            }
            if (result == 1) {
                x.vote(1, 1);
            }
            x.floor(3);
            int due = result;
            Edge.done(x, "told()", () -> x.told(), due);
            Due.due("count(5) behind " + result, x.count(5), -1);
        }
    }

    // 22 adjourn()

    /** "8 no CHAIR that is THERE." */
    private static void adjournNoChair() {
        MotionFloor x = new MotionFloor();
        Edge.refused(x, "adjourn(), no CHAIR", () -> x.adjourn(), Edge.THERE);
        MotionFloor y = Edge.mainOf(1);
        y.draft(2);
        y.floor(1);
        y.gone(0);
        Edge.refused(y, "adjourn(), it is gone", () -> y.adjourn(), Edge.THERE);
        y.there(0);
        Edge.done(y, "adjourn()", () -> y.adjourn(), 1);
    }

    /** "All PENDING are gone, THE DRAFT, too; nobody has THE FLOOR. How many there were." The most. */
    private static void adjournAll() {
        MotionFloor x = Edge.ninePending(3);
        x.draft(8);
        x.floor(3);
        Edge.done(x, "adjourn()", () -> x.adjourn(), 9);
        Due.due("count(5)", x.count(5), -1);
        Due.due("count(6)", x.count(6), 0);
        Due.due("count(7)", x.count(7), 0);
        Due.due("count(1)", x.count(1), 4);
        Due.due("no RESULT", x.count(9), 0);
    }

    /** The same: 0 of none, below the QUORUM, too. */
    private static void adjournNothing() {
        MotionFloor x = Due.sitting(3);
        x.quorum(4);
        Edge.done(x, "adjourn()", () -> x.adjourn(), 0);
        Edge.done(x, "adjourn() again", () -> x.adjourn(), 0);
        Due.due("the QUORUM stays", x.count(3), 4);
    }

    /** The same: THE DRAFT is gone, but none that was PENDING; a TABLED row, too. */
    private static void adjournDraft() {
        MotionFloor x = Edge.mainOf(1);
        Due.bring(x, 7);
        Due.carry(x);
        x.take(0);
        Edge.done(x, "adjourn() with a TABLED row", () -> x.adjourn(), 0);
        Due.due("count(7)", x.count(7), 0);
        Due.dueDesk(x, 0, 0, 0);
        Edge.refused(x, "take(0)", () -> x.take(0), Edge.STATE);
    }

    /** "Seats that are gone keep their VOTES, which count if they are THERE as it is told." */
    private static void goneSeatsKeepVotes() {
        MotionFloor x = Edge.mainOf(1);
        x.vote(1, 1);
        x.vote(2, 0);
        x.vote(3, 0);
        x.gone(2);
        x.gone(3);
        Due.due("pending(0, 9)", x.pending(0, 9), 3);
        Due.due("ballot(3)", x.ballot(3), 0);
        x.there(3);
        Edge.done(x, "told()", () -> x.told(), 2);
        Due.dueResult(x, 0, x.count(8) - 1, 1, 2, 1, 1, -1);
    }

    /** "Only the acts of 13 .. 15, 21 and 22 change THE DESK." */
    private static void othersLeaveDesk() {
        MotionFloor x = Edge.mainOf(3);
        Due.layAmend(x, 5, 2, 1, 2, 9);
        int[] facts = {2, 2, 1, 1, 2, 0};
        x.gone(3);
        x.there(3);
        x.chair(3);
        x.floor(1);
        x.debate(1);
        x.cede();
        x.draft(2);
        x.span(1, 2);
        x.word(7, 0, 0, 0);
        x.vote(1, 1);
        x.rule();
        x.appeal(1);
        Due.dueDesk(x, 5, facts);
        x.vote(1, 0);
        x.told();
        x.withdraw(1);
        x.quorum(1);
        x.limit(1);
        x.majority(1, 2);
        Due.dueDesk(x, 5, facts);
        x.adjourn();
        Due.dueDesk(x, 5, facts);
        for (int p = 0; p < 8; p++) {
            Due.due("desk(" + p + ", 0)", x.desk(p, 0), p == 5 ? 2 : 0);
        }
    }
}
