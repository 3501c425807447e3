/**
 * The edges that the document names in II, ACTS 1 to 12 and 16 to 20: a method for each sentence or part of one, which is
 * told above it. Where an act has more REASONS than one at once, the first that is told is due.
 */
public final class EdgeActsTest {
    private static final int LEAST = Edge.LEAST;
    private static final int MOST = Edge.MOST;

    public static void main(String[] args) {
        seatsOfActs();
        settings();
        floorActs();
        paperActs();
        supportActs();
        rulingActs();
        Due.end();
    }

    private static void seatsOfActs() {
        thereNoSuchSeat();
        thereAlready();
        thereHowMany();
        goneNoSuchSeat();
        goneNotThere();
        goneWithTheFloor();
        goneHowMany();
        chairNoSuchSeat();
        chairNotThere();
        chairWithTheFloor();
        chairAnew();
    }

    private static void settings() {
        quorumRange();
        quorumPending();
        quorumAnswer();
        majorityKinds();
        majoritySorts();
        majorityPending();
        majorityWas();
        limitRange();
        limitPending();
        limitAnswer();
    }

    private static void floorActs() {
        floorNoSuchSeat();
        floorNotThere();
        floorOfTheChair();
        floorTaken();
        floorOnClose();
        floorOnClosed();
        floorByLimit();
        floorBeyondLimit();
        floorWithoutLimit();
        floorWithoutTop();
        floorFirstReason();
        cedeNobody();
        cedeWho();
        debateNothing();
        debateWithoutFloor();
        debateNotSeconded();
        debateRuling();
        debateKinds();
        debateFirstReason();
    }

    private static void paperActs() {
        draftKinds();
        draftInPlace();
        draftInPlaceOfOutOfOrder();
        spanWithoutDraft();
        spanOfOthers();
        spanOfLaid();
        spanRange();
        spanBelow();
        spanAnswer();
        wordWithoutDraft();
        wordOfOthers();
        wordOfLaid();
        wordFirstIsNone();
        wordOthers();
        wordTooMany();
        wordBehind();
        wordFirstReason();
    }

    private static void supportActs() {
        secondNothing();
        secondNoSuchSeat();
        secondNotThere();
        secondHasOne();
        secondRuling();
        secondMoverOrChair();
        secondFirstReason();
        voteNothing();
        voteRange();
        voteNotThere();
        voteNotSeconded();
        voteRuling();
        voteHow();
        voteFirstReason();
        withdrawNothing();
        withdrawNotMover();
        withdrawRuling();
        withdrawNotThere();
        withdrawTop();
    }

    private static void rulingActs() {
        ruleNoChair();
        ruleNothing();
        ruleOnRuling();
        ruleOnNine();
        ruleMover();
        ruleFirstReason();
        appealNothing();
        appealNoRuling();
        appealTwice();
        appealNoSuchSeat();
        appealNotThere();
        appealOfTheChair();
        appealFirstReason();
    }

    // 1 there(s)

    /** "9 no such SEAT." */
    private static void thereNoSuchSeat() {
        MotionFloor x = new MotionFloor();
        Edge.refused(x, "there(1) of one", () -> x.there(1), Edge.RANGE);
        Edge.refused(x, "there(-1)", () -> x.there(-1), Edge.RANGE);
        Edge.done(x, "there(0) of one", () -> x.there(0), 1);
        x.seats(200);
        Edge.refused(x, "there(200)", () -> x.there(200), Edge.RANGE);
        Edge.refused(x, "there(MIN)", () -> x.there(LEAST), Edge.RANGE);
        Edge.refused(x, "there(MAX)", () -> x.there(MOST), Edge.RANGE);
        Edge.done(x, "there(199)", () -> x.there(199), 1);
    }

    /** "11 it is THERE." */
    private static void thereAlready() {
        MotionFloor x = Due.sitting(2);
        Edge.refused(x, "there(0)", () -> x.there(0), Edge.STATE);
        Edge.refused(x, "there(1)", () -> x.there(1), Edge.STATE);
        x.gone(1);
        Edge.done(x, "there(1) of one that had gone", () -> x.there(1), 2);
    }

    /** "How many are THERE." Up to all of the most SEATS. */
    private static void thereHowMany() {
        MotionFloor x = new MotionFloor();
        x.seats(200);
        for (int s = 199; s >= 0; s--) {
            Due.due("there(" + s + ")", x.there(s), 200 - s);
        }
        Due.due("count(1)", x.count(1), 200);
    }

    // 2 gone(s)

    /** "9." */
    private static void goneNoSuchSeat() {
        MotionFloor x = Due.sitting(3);
        Edge.refused(x, "gone(3)", () -> x.gone(3), Edge.RANGE);
        Edge.refused(x, "gone(-1)", () -> x.gone(-1), Edge.RANGE);
        Edge.refused(x, "gone(MIN)", () -> x.gone(LEAST), Edge.RANGE);
        Edge.refused(x, "gone(MAX)", () -> x.gone(MOST), Edge.RANGE);
        Edge.done(x, "gone(2)", () -> x.gone(2), 2);
    }

    /** "8 it is not." */
    private static void goneNotThere() {
        MotionFloor x = new MotionFloor();
        Edge.refused(x, "gone(0) of nobody", () -> x.gone(0), Edge.THERE);
        MotionFloor y = Due.sitting(3);
        y.gone(2);
        Edge.refused(y, "gone(2) again", () -> y.gone(2), Edge.THERE);
    }

    /** "Has it THE FLOOR, nobody has." */
    private static void goneWithTheFloor() {
        MotionFloor x = Due.sitting(3);
        x.floor(2);
        Edge.done(x, "gone(1), another has it", () -> x.gone(1), 2);
        Due.due("SEAT 2 has it still", x.count(5), 2);
        Edge.done(x, "gone(2), which has it", () -> x.gone(2), 1);
        Due.due("nobody has it", x.count(5), -1);
    }

    /** "How many are." Down to none. */
    private static void goneHowMany() {
        MotionFloor x = Due.sitting(3);
        Edge.done(x, "gone(0)", () -> x.gone(0), 2);
        Edge.done(x, "gone(1)", () -> x.gone(1), 1);
        Edge.done(x, "gone(2), the last", () -> x.gone(2), 0);
        Due.due("the CHAIR is still SEAT 0", x.count(2), 0);
    }

    // 4 chair(s)

    /** "9." */
    private static void chairNoSuchSeat() {
        MotionFloor x = Due.sitting(3);
        Edge.refused(x, "chair(3)", () -> x.chair(3), Edge.RANGE);
        Edge.refused(x, "chair(-1), there is no way back to none", () -> x.chair(-1), Edge.RANGE);
        Edge.refused(x, "chair(MIN)", () -> x.chair(LEAST), Edge.RANGE);
        Edge.refused(x, "chair(MAX)", () -> x.chair(MOST), Edge.RANGE);
        Edge.done(x, "chair(2)", () -> x.chair(2), 2);
    }

    /** "8." */
    private static void chairNotThere() {
        MotionFloor x = Due.sitting(3);
        x.gone(2);
        Edge.refused(x, "chair(2)", () -> x.chair(2), Edge.THERE);
        Due.due("the CHAIR stays", x.count(2), 0);
    }

    /** "Has it THE FLOOR, nobody has." */
    private static void chairWithTheFloor() {
        MotionFloor x = Due.sitting(4);
        x.floor(1);
        Edge.done(x, "chair(2), another has it", () -> x.chair(2), 2);
        Due.due("SEAT 1 has it still", x.count(5), 1);
        Edge.done(x, "chair(1), which has it", () -> x.chair(1), 1);
        Due.due("nobody has it", x.count(5), -1);
    }

    /** "It is the CHAIR": done again for the one that is, and while motions are PENDING. */
    private static void chairAnew() {
        MotionFloor x = Due.sitting(4);
        Edge.done(x, "chair(0) again", () -> x.chair(0), 0);
        Due.bring(x, 1, 5);
        Edge.done(x, "chair(3), PENDING", () -> x.chair(3), 3);
        Due.due("one CHAIR", x.count(2), 3);
    }

    // 3 quorum(q)

    /** "9 not 0 .. 200." */
    private static void quorumRange() {
        MotionFloor x = new MotionFloor();
        Edge.refused(x, "quorum(-1)", () -> x.quorum(-1), Edge.RANGE);
        Edge.refused(x, "quorum(201)", () -> x.quorum(201), Edge.RANGE);
        Edge.refused(x, "quorum(MIN)", () -> x.quorum(LEAST), Edge.RANGE);
        Edge.refused(x, "quorum(MAX)", () -> x.quorum(MOST), Edge.RANGE);
        Edge.done(x, "quorum(200), above the SEATS", () -> x.quorum(200), 200);
        Edge.done(x, "quorum(0)", () -> x.quorum(0), 0);
    }

    /** "11 something is PENDING." */
    private static void quorumPending() {
        MotionFloor x = Due.sitting(3);
        Due.bring(x, 1, 5);
        Edge.refused(x, "quorum(2)", () -> x.quorum(2), Edge.STATE);
        Edge.refused(x, "quorum(201), the first REASON", () -> x.quorum(201), Edge.RANGE);
        x.withdraw(1);
        Edge.done(x, "quorum(2)", () -> x.quorum(2), 2);
    }

    /** "q." */
    private static void quorumAnswer() {
        MotionFloor x = new MotionFloor();
        Edge.done(x, "quorum(1)", () -> x.quorum(1), 1);
        Edge.done(x, "quorum(199)", () -> x.quorum(199), 199);
        Due.due("count(3)", x.count(3), 199);
    }

    // 5 majority(kind, sort)

    /** "9 (kinds 1 .. 8)." */
    private static void majorityKinds() {
        MotionFloor x = new MotionFloor();
        Edge.refused(x, "majority(0, 1)", () -> x.majority(0, 1), Edge.RANGE);
        Edge.refused(x, "majority(9, 1), a RULING has none", () -> x.majority(9, 1), Edge.RANGE);
        Edge.refused(x, "majority(MIN, 1)", () -> x.majority(LEAST, 1), Edge.RANGE);
        Edge.refused(x, "majority(MAX, 1)", () -> x.majority(MOST, 1), Edge.RANGE);
        Edge.done(x, "majority(1, 1)", () -> x.majority(1, 1), 1);
        Edge.done(x, "majority(8, 1)", () -> x.majority(8, 1), 1);
    }

    /** A MAJORITY is "1 .., 2 .., 3 .."; 9 for others. */
    private static void majoritySorts() {
        MotionFloor x = new MotionFloor();
        Edge.refused(x, "majority(1, 0)", () -> x.majority(1, 0), Edge.RANGE);
        Edge.refused(x, "majority(1, 4)", () -> x.majority(1, 4), Edge.RANGE);
        Edge.refused(x, "majority(1, -1)", () -> x.majority(1, -1), Edge.RANGE);
        Edge.refused(x, "majority(8, MAX)", () -> x.majority(8, MOST), Edge.RANGE);
        Edge.done(x, "majority(1, 3)", () -> x.majority(1, 3), 1);
        Edge.done(x, "majority(1, 1)", () -> x.majority(1, 1), 3);
    }

    /** "11 something is PENDING." */
    private static void majorityPending() {
        MotionFloor x = Due.sitting(3);
        Due.bring(x, 1, 5);
        Edge.refused(x, "majority(1, 2)", () -> x.majority(1, 2), Edge.STATE);
        Edge.refused(x, "majority(1, 4), the first REASON", () -> x.majority(1, 4), Edge.RANGE);
        Edge.refused(x, "majority(9, 2), the first REASON", () -> x.majority(9, 2), Edge.RANGE);
        x.adjourn();
        Edge.done(x, "majority(1, 2)", () -> x.majority(1, 2), 1);
    }

    /** "What it was." At first 2 of CLOSE and 1 of others; each KIND has its own. */
    private static void majorityWas() {
        MotionFloor x = new MotionFloor();
        for (int kind = 1; kind <= 8; kind++) {
            int of = kind;
            Edge.done(x, "majority(" + kind + ", 3)", () -> x.majority(of, 3), kind == 6 ? 2 : 1);
        }
        for (int kind = 1; kind <= 8; kind++) {
            int of = kind;
            Edge.done(x, "majority(" + kind + ", 2)", () -> x.majority(of, 2), 3);
        }
    }

    // 6 limit(n)

    /** "9 not 0 .. 99." */
    private static void limitRange() {
        MotionFloor x = new MotionFloor();
        Edge.refused(x, "limit(-1)", () -> x.limit(-1), Edge.RANGE);
        Edge.refused(x, "limit(100)", () -> x.limit(100), Edge.RANGE);
        Edge.refused(x, "limit(MIN)", () -> x.limit(LEAST), Edge.RANGE);
        Edge.refused(x, "limit(MAX)", () -> x.limit(MOST), Edge.RANGE);
        Edge.done(x, "limit(99)", () -> x.limit(99), 99);
        Edge.done(x, "limit(0)", () -> x.limit(0), 0);
    }

    /** "11 PENDING." */
    private static void limitPending() {
        MotionFloor x = Due.sitting(3);
        Due.bring(x, 1, 5);
        Edge.refused(x, "limit(3)", () -> x.limit(3), Edge.STATE);
        Edge.refused(x, "limit(100), the first REASON", () -> x.limit(100), Edge.RANGE);
        x.told();
        Edge.done(x, "limit(3)", () -> x.limit(3), 3);
    }

    /** "n." */
    private static void limitAnswer() {
        MotionFloor x = new MotionFloor();
        Edge.done(x, "limit(1)", () -> x.limit(1), 1);
        Due.due("count(4)", x.count(4), 1);
    }

    // 7 floor(s)

    /** "9." */
    private static void floorNoSuchSeat() {
        MotionFloor x = Due.sitting(3);
        Edge.refused(x, "floor(3)", () -> x.floor(3), Edge.RANGE);
        Edge.refused(x, "floor(-1)", () -> x.floor(-1), Edge.RANGE);
        Edge.refused(x, "floor(MIN)", () -> x.floor(LEAST), Edge.RANGE);
        Edge.refused(x, "floor(MAX)", () -> x.floor(MOST), Edge.RANGE);
        Edge.done(x, "floor(2)", () -> x.floor(2), 0);
    }

    /** "8." */
    private static void floorNotThere() {
        MotionFloor x = new MotionFloor();
        Edge.refused(x, "floor(0)", () -> x.floor(0), Edge.THERE);
        x.there(0);
        Edge.done(x, "floor(0), no CHAIR", () -> x.floor(0), 0);
    }

    /** "2 it is the CHAIR." */
    private static void floorOfTheChair() {
        MotionFloor x = Due.sitting(3);
        Edge.refused(x, "floor(0)", () -> x.floor(0), Edge.FLOOR);
        x.chair(1);
        Edge.done(x, "floor(0), no more the CHAIR", () -> x.floor(0), 0);
    }

    /** "Or some SEAT has it." */
    private static void floorTaken() {
        MotionFloor x = Due.sitting(3);
        x.floor(1);
        Edge.refused(x, "floor(1), which has it", () -> x.floor(1), Edge.FLOOR);
        Edge.refused(x, "floor(2), another has it", () -> x.floor(2), Edge.FLOOR);
        MotionFloor y = new MotionFloor();
        y.seats(2);
        y.there(0);
        y.there(1);
        y.floor(0);
        Edge.refused(y, "floor(1), SEAT 0 has it", () -> y.floor(1), Edge.FLOOR);
    }

    /** "6 the TOP is a CLOSE." */
    private static void floorOnClose() {
        MotionFloor x = Due.sitting(4);
        Due.bring(x, 1, 5);
        Due.bring(x, 6);
        Edge.refused(x, "floor(3)", () -> x.floor(3), Edge.CLOSED);
        x.rule();
        Edge.done(x, "floor(3), a RULING is the TOP", () -> x.floor(3), 1);
    }

    /** "Or CLOSED": the one below the CLOSE, not the one below that. */
    private static void floorOnClosed() {
        MotionFloor x = Due.sitting(4);
        Due.bring(x, 1, 5);
        Due.bring(x, 4, 6);
        Due.bring(x, 6);
        Due.carry(x);
        Edge.refused(x, "floor(3) on the CLOSED one", () -> x.floor(3), Edge.CLOSED);
        Due.lose(x);
        Edge.done(x, "floor(3) on the one below", () -> x.floor(3), 2);
    }

    /** "Or has as many FLOORS as LIMIT." */
    private static void floorByLimit() {
        MotionFloor x = Due.sitting(4);
        x.limit(1);
        Due.bring(x, 1, 5);
        Edge.done(x, "floor(3), the first", () -> x.floor(3), 1);
        x.cede();
        Edge.refused(x, "floor(3), the second", () -> x.floor(3), Edge.CLOSED);
        Edge.refused(x, "floor(1), another SEAT", () -> x.floor(1), Edge.CLOSED);
        MotionFloor y = Due.sitting(4);
        y.limit(99);
        Due.bring(y, 1, 5);
        for (int i = 1; i <= 99; i++) {
            Due.due("floor(3), " + i, y.floor(3), i);
            y.cede();
        }
        Edge.refused(y, "floor(3), the hundredth", () -> y.floor(3), Edge.CLOSED);
    }

    /** The same, with more than LIMIT: it was lower when the TABLED one came back. */
    private static void floorBeyondLimit() {
        MotionFloor x = Due.sitting(4);
        Due.bring(x, 1, 5);
        for (int i = 1; i <= 3; i++) {
            x.floor(3);
            x.cede();
        }
        Due.bring(x, 7);
        Due.carry(x);
        x.limit(2);
        x.take(0);
        Edge.moveAlone(x, 1);
        Due.due("FLOORS", x.pending(0, 6), 4);
        Edge.refused(x, "floor(3)", () -> x.floor(3), Edge.CLOSED);
    }

    /** "(not 0)." */
    private static void floorWithoutLimit() {
        MotionFloor x = Due.sitting(4);
        Due.bring(x, 1, 5);
        for (int i = 1; i <= 120; i++) {
            Due.due("floor(3), " + i, x.floor(3), i);
            x.cede();
        }
        MotionFloor y = Due.sitting(4);
        y.limit(7);
        y.limit(0);
        Due.bring(y, 1, 5);
        Edge.done(y, "floor(3) without FLOORS and LIMIT", () -> y.floor(3), 1);
    }

    /** "How many FLOORS the TOP has then (0 without one)." */
    private static void floorWithoutTop() {
        MotionFloor x = Due.sitting(3);
        x.limit(1);
        Edge.done(x, "floor(1)", () -> x.floor(1), 0);
        x.cede();
        Edge.done(x, "floor(1) again", () -> x.floor(1), 0);
    }

    /** "In each act in the order told there." */
    private static void floorFirstReason() {
        MotionFloor x = Due.sitting(4);
        Due.bring(x, 1, 5);
        x.gone(3);
        x.floor(1);
        Edge.refused(x, "9 before 2", () -> x.floor(4), Edge.RANGE);
        Edge.refused(x, "8 before 2, another has it", () -> x.floor(3), Edge.THERE);
        x.gone(0);
        Edge.refused(x, "8 before 2, the CHAIR", () -> x.floor(0), Edge.THERE);
        x.there(0);
        x.cede();
        Due.bring(x, 6);
        Edge.refused(x, "9 before 6", () -> x.floor(-1), Edge.RANGE);
        Edge.refused(x, "8 before 6", () -> x.floor(3), Edge.THERE);
        Edge.refused(x, "2 before 6, the CHAIR", () -> x.floor(0), Edge.FLOOR);
        MotionFloor y = Due.sitting(4);
        y.limit(1);
        Due.bring(y, 1, 5);
        y.floor(1);
        Edge.refused(y, "2 before 6, another has it", () -> y.floor(2), Edge.FLOOR);
    }

    // 8 cede()

    /** "2 nobody has it." */
    private static void cedeNobody() {
        MotionFloor x = new MotionFloor();
        Edge.refused(x, "cede() of a new one", () -> x.cede(), Edge.FLOOR);
        MotionFloor y = Due.sitting(3);
        y.floor(1);
        y.cede();
        Edge.refused(y, "cede() again", () -> y.cede(), Edge.FLOOR);
    }

    /** "Who had it." SEAT 0, too. */
    private static void cedeWho() {
        MotionFloor x = new MotionFloor();
        x.there(0);
        x.floor(0);
        Edge.done(x, "cede()", () -> x.cede(), 0);
        Due.due("nobody has it", x.count(5), -1);
    }

    // 9 debate(s)

    /** "7 nothing." */
    private static void debateNothing() {
        MotionFloor x = Due.sitting(3);
        x.floor(1);
        Edge.refused(x, "debate(1)", () -> x.debate(1), Edge.PENDING);
        Edge.refused(x, "debate(-1)", () -> x.debate(-1), Edge.PENDING);
    }

    /** "2 it has it not." No SEAT that there is not, or NONE, has it. */
    private static void debateWithoutFloor() {
        MotionFloor x = Due.sitting(3);
        Due.bring(x, 1, 5);
        Edge.refused(x, "debate(1), nobody has it", () -> x.debate(1), Edge.FLOOR);
        Edge.refused(x, "debate(-1), nobody has it", () -> x.debate(-1), Edge.FLOOR);
        x.floor(1);
        Edge.refused(x, "debate(2), another has it", () -> x.debate(2), Edge.FLOOR);
        Edge.refused(x, "debate(MAX)", () -> x.debate(MOST), Edge.FLOOR);
        Edge.refused(x, "debate(MIN)", () -> x.debate(LEAST), Edge.FLOOR);
        Edge.done(x, "debate(1)", () -> x.debate(1), 1);
        Edge.done(x, "debate(1) again", () -> x.debate(1), 2);
    }

    /** "3 the TOP has no seconder." */
    private static void debateNotSeconded() {
        MotionFloor x = Due.sitting(3);
        Due.write(x, 1, 5);
        Edge.moveAlone(x, 1);
        x.floor(1);
        Edge.refused(x, "debate(1)", () -> x.debate(1), Edge.SECONDED);
        x.second(2);
        Edge.done(x, "debate(1)", () -> x.debate(1), 1);
    }

    /** "(Is a RULING that was not appealed)." */
    private static void debateRuling() {
        MotionFloor x = Due.sitting(3);
        Due.bring(x, 1, 5);
        x.rule();
        x.floor(1);
        Edge.refused(x, "debate(1)", () -> x.debate(1), Edge.SECONDED);
        x.appeal(2);
        Edge.done(x, "debate(1), appealed", () -> x.debate(1), 1);
    }

    /** "6 it is a CLOSE, TABLE, RECESS" (nobody can have THE FLOOR on a CLOSE). */
    private static void debateKinds() {
        for (int kind = 4; kind <= 8; kind++) {
            if (kind == 6) {
                continue;
            }
            MotionFloor x = Due.sitting(4);
            Due.bring(x, 1, 5);
            Due.bring(x, kind);
            x.floor(3);
            if (kind < 6) {
                Edge.done(x, "debate(3) on " + kind, () -> x.debate(3), 1);
            } else {
                Edge.refused(x, "debate(3) on " + kind, () -> x.debate(3), Edge.CLOSED);
            }
        }
    }

    /** "In each act in the order told there." */
    private static void debateFirstReason() {
        MotionFloor x = Due.sitting(4);
        Edge.refused(x, "7 before 2", () -> x.debate(1), Edge.PENDING);
        Due.write(x, 1, 5);
        Edge.moveAlone(x, 1);
        Edge.refused(x, "2 before 3", () -> x.debate(1), Edge.FLOOR);
        x.second(2);
        x.draft(7);
        Edge.moveAlone(x, 1);
        Edge.refused(x, "2 before 6", () -> x.debate(3), Edge.FLOOR);
        x.floor(3);
        Edge.refused(x, "3 before 6", () -> x.debate(3), Edge.SECONDED);
    }

    // 10 draft(kind)

    /** "9 not 1 .. 8." */
    private static void draftKinds() {
        MotionFloor x = new MotionFloor();
        Edge.refused(x, "draft(0)", () -> x.draft(0), Edge.RANGE);
        Edge.refused(x, "draft(9), a RULING is not drafted", () -> x.draft(9), Edge.RANGE);
        Edge.refused(x, "draft(-1)", () -> x.draft(-1), Edge.RANGE);
        Edge.refused(x, "draft(MIN)", () -> x.draft(LEAST), Edge.RANGE);
        Edge.refused(x, "draft(MAX)", () -> x.draft(MOST), Edge.RANGE);
        Edge.done(x, "draft(1)", () -> x.draft(1), 1);
        Edge.done(x, "draft(8)", () -> x.draft(8), 8);
        Edge.refused(x, "draft(9) leaves what there is", () -> x.draft(9), Edge.RANGE);
        Due.due("count(7)", x.count(7), 8);
    }

    /** "In place of one that there was, without words, the SPAN 0 .. 0, not LAID." */
    private static void draftInPlace() {
        MotionFloor x = Edge.mainOf(3);
        Due.write(x, 2, 7, 8);
        x.span(1, 3);
        Edge.done(x, "draft(2) in place of one with words and a SPAN", () -> x.draft(2), 2);
        Due.dueText(x, 9);
        x.lay(0);
        Due.dueDesk(x, 0, 2, 2, 0, 0, 0, 0);
        x.take(0);
        Edge.done(x, "draft(2) in place of a LAID one", () -> x.draft(2), 2);
        Edge.done(x, "it is not LAID", () -> x.span(0, 2), 2);
        Due.bring(x, 7);
        Due.carry(x);
        x.take(0);
        Edge.done(x, "draft(1) in place of a TABLED row", () -> x.draft(1), 1);
        Due.due("count(7)", x.count(7), 1);
        Due.dueDesk(x, 0, 0, 0);
    }

    /** The same: a new one is not OUT OF ORDER, and knows nothing of the one that there was. */
    private static void draftInPlaceOfOutOfOrder() {
        MotionFloor x = Edge.mainOf(4);
        Due.layAmend(x, 0, 2, 1, 3, 9);
        Due.bringAmend(x, 2, 2, 3, 8);
        Due.carry(x);
        x.take(0);
        Edge.done(x, "draft(2)", () -> x.draft(2), 2);
        x.lay(0);
        Due.dueDesk(x, 0, 2, 2, 0, 0, 0, 0);
        x.take(0);
        x.floor(1);
        Edge.done(x, "move(1)", () -> x.move(1), 2);
    }

    // 11 span(a, b)

    /** "11 no DRAFT." */
    private static void spanWithoutDraft() {
        MotionFloor x = new MotionFloor();
        Edge.refused(x, "span(0, 0)", () -> x.span(0, 0), Edge.STATE);
        Edge.refused(x, "span(-1, 401), the first REASON", () -> x.span(-1, 401), Edge.STATE);
    }

    /** "Or neither AMEND nor SECOND." */
    private static void spanOfOthers() {
        MotionFloor x = new MotionFloor();
        for (int kind = 1; kind <= 8; kind++) {
            x.draft(kind);
            if (kind == 2 || kind == 3) {
                Edge.done(x, "span(0, 1) of " + kind, () -> x.span(0, 1), 1);
            } else {
                Edge.refused(x, "span(0, 1) of " + kind, () -> x.span(0, 1), Edge.STATE);
                Edge.refused(x, "span(1, 0) of " + kind, () -> x.span(1, 0), Edge.STATE);
            }
        }
    }

    /** "Or it was LAID": an AMEND, and a TABLED row. */
    private static void spanOfLaid() {
        MotionFloor x = Edge.mainOf(3);
        Due.layAmend(x, 0, 2, 0, 1, 7);
        x.take(0);
        Edge.refused(x, "span(0, 2)", () -> x.span(0, 2), Edge.STATE);
        Edge.refused(x, "span(2, 0)", () -> x.span(2, 0), Edge.STATE);
        x.lay(0);
        Due.bringAmend(x, 2, 0, 1, 8);
        Due.bring(x, 7);
        Due.carry(x);
        x.take(1);
        Edge.refused(x, "span(0, 1) of a TABLED row", () -> x.span(0, 1), Edge.STATE);
    }

    /** "9 not 0 .. 400." */
    private static void spanRange() {
        MotionFloor x = new MotionFloor();
        x.draft(2);
        Edge.refused(x, "span(-1, 0)", () -> x.span(-1, 0), Edge.RANGE);
        Edge.refused(x, "span(0, 401)", () -> x.span(0, 401), Edge.RANGE);
        Edge.refused(x, "span(401, 401)", () -> x.span(401, 401), Edge.RANGE);
        Edge.refused(x, "span(-2, -1)", () -> x.span(-2, -1), Edge.RANGE);
        Edge.refused(x, "span(MIN, MAX)", () -> x.span(LEAST, MOST), Edge.RANGE);
        Edge.refused(x, "span(0, MAX)", () -> x.span(0, MOST), Edge.RANGE);
        Edge.refused(x, "span(MIN, 0)", () -> x.span(LEAST, 0), Edge.RANGE);
        Edge.done(x, "span(0, 400)", () -> x.span(0, 400), 400);
        Edge.done(x, "span(400, 400)", () -> x.span(400, 400), 0);
    }

    /** "Or b below a." */
    private static void spanBelow() {
        MotionFloor x = new MotionFloor();
        x.draft(3);
        Edge.refused(x, "span(1, 0)", () -> x.span(1, 0), Edge.RANGE);
        Edge.refused(x, "span(400, 399)", () -> x.span(400, 399), Edge.RANGE);
        Edge.done(x, "span(399, 399), an empty one", () -> x.span(399, 399), 0);
    }

    /** "b - a"; the latest one holds. */
    private static void spanAnswer() {
        MotionFloor x = Edge.mainOf(5);
        x.draft(2);
        Edge.done(x, "span(0, 0)", () -> x.span(0, 0), 0);
        Edge.done(x, "span(1, 5)", () -> x.span(1, 5), 4);
        Edge.done(x, "span(2, 3)", () -> x.span(2, 3), 1);
        x.lay(0);
        Due.dueDesk(x, 0, 2, 2, 0, 2, 3, 0);
    }

    // 12 word(a, b, c, d)

    /** "11 no DRAFT." */
    private static void wordWithoutDraft() {
        MotionFloor x = new MotionFloor();
        Edge.refused(x, "word(1, 0, 0, 0)", () -> x.word(1, 0, 0, 0), Edge.STATE);
    }

    /** "Or of KIND 6 .. 8." */
    private static void wordOfOthers() {
        MotionFloor x = new MotionFloor();
        for (int kind = 1; kind <= 8; kind++) {
            x.draft(kind);
            if (kind <= 5) {
                Edge.done(x, "word(1, 0, 0, 0) of " + kind, () -> x.word(1, 0, 0, 0), 1);
            } else {
                Edge.refused(x, "word(1, 0, 0, 0) of " + kind, () -> x.word(1, 0, 0, 0), Edge.STATE);
            }
        }
    }

    /** "Or it was LAID": a MAIN, and a TABLED row; a LETTER is not. */
    private static void wordOfLaid() {
        MotionFloor x = Due.sitting(4);
        Due.write(x, 1, 5);
        x.lay(0);
        x.take(0);
        Edge.refused(x, "word(6, 0, 0, 0) of a LAID one", () -> x.word(6, 0, 0, 0), Edge.STATE);
        Due.bring(x);
        Due.bring(x, 7);
        Due.carry(x);
        x.take(0);
        Edge.refused(x, "word(6, 0, 0, 0) of a TABLED row", () -> x.word(6, 0, 0, 0), Edge.STATE);
        Edge.moveAlone(x, 1);
        Due.bring(x, 5);
        Due.carry(x);
        x.take(0);
        Edge.refused(x, "word(6, 0, 0, 0) of one that was postponed", () -> x.word(6, 0, 0, 0), Edge.STATE);
        Edge.moveAlone(x, 1);
        Due.bring(x, 4);
        Due.carry(x);
        x.take(0);
        Edge.done(x, "word(6, 0, 0, 0) of a LETTER", () -> x.word(6, 0, 0, 0), 2);
    }

    /** "9 the first is none": words are 1 .. 30000. */
    private static void wordFirstIsNone() {
        MotionFloor x = new MotionFloor();
        x.draft(1);
        Edge.refused(x, "word(0, 0, 0, 0)", () -> x.word(0, 0, 0, 0), Edge.RANGE);
        Edge.refused(x, "word(0, 1, 1, 1)", () -> x.word(0, 1, 1, 1), Edge.RANGE);
        Edge.refused(x, "word(-1, 0, 0, 0)", () -> x.word(-1, 0, 0, 0), Edge.RANGE);
        Edge.refused(x, "word(30001, 0, 0, 0)", () -> x.word(30001, 0, 0, 0), Edge.RANGE);
        Edge.refused(x, "word(MIN, 0, 0, 0)", () -> x.word(LEAST, 0, 0, 0), Edge.RANGE);
        Edge.refused(x, "word(MAX, 0, 0, 0)", () -> x.word(MOST, 0, 0, 0), Edge.RANGE);
        Edge.done(x, "word(1, 0, 0, 0)", () -> x.word(1, 0, 0, 0), 1);
        Edge.done(x, "word(30000, 0, 0, 0)", () -> x.word(30000, 0, 0, 0), 2);
        Due.dueText(x, 9, 1, 30000);
    }

    /** "Or of the others one is neither 0 nor one." */
    private static void wordOthers() {
        MotionFloor x = new MotionFloor();
        x.draft(1);
        int[] wrong = {-1, 30001, LEAST, MOST};
        for (int n : wrong) {
            Edge.refused(x, "word(1, " + n + ", 0, 0)", () -> x.word(1, n, 0, 0), Edge.RANGE);
            Edge.refused(x, "word(1, 0, " + n + ", 0)", () -> x.word(1, 0, n, 0), Edge.RANGE);
            Edge.refused(x, "word(1, 0, 0, " + n + ")", () -> x.word(1, 0, 0, n), Edge.RANGE);
        }
        Edge.done(x, "word(1, 1, 30000, 1)", () -> x.word(1, 1, 30000, 1), 4);
        Edge.done(x, "word(1, 30000, 1, 30000)", () -> x.word(1, 30000, 1, 30000), 8);
    }

    /** "10 more than 400." By how many words there would be, not by how many numbers. */
    private static void wordTooMany() {
        for (int more = 1; more <= 4; more++) {
            MotionFloor x = new MotionFloor();
            int[] n = {9, more > 1 ? 8 : 0, more > 2 ? 7 : 0, more > 3 ? 6 : 0};
            x.draft(1);
            Due.fill(x, 401 - more, 1);
            Edge.refused(x, more + " behind " + (401 - more), () -> x.word(n[0], n[1], n[2], n[3]), Edge.ROOM);
            Edge.refused(x, "the same otherwise", () -> x.word(n[0], n[3], n[2], n[1]), Edge.ROOM);
            x.draft(1);
            Due.fill(x, 400 - more, 1);
            Edge.done(x, more + " behind " + (400 - more), () -> x.word(n[0], n[1], n[2], n[3]), 400);
            Due.due("the last one", x.text(9, 399), n[more - 1]);
            Edge.refused(x, "one behind 400", () -> x.word(1, 0, 0, 0), Edge.ROOM);
        }
    }

    /** "Those that are not 0 come behind its words. How many it has." */
    private static void wordBehind() {
        MotionFloor x = new MotionFloor();
        x.draft(2);
        Edge.done(x, "word(4, 0, 0, 5)", () -> x.word(4, 0, 0, 5), 2);
        Edge.done(x, "word(6, 0, 7, 0)", () -> x.word(6, 0, 7, 0), 4);
        Edge.done(x, "word(8, 9, 0, 0)", () -> x.word(8, 9, 0, 0), 6);
        Due.dueText(x, 9, 4, 5, 6, 7, 8, 9);
    }

    /** "In each act in the order told there." */
    private static void wordFirstReason() {
        MotionFloor x = new MotionFloor();
        Edge.refused(x, "11 before 9", () -> x.word(0, 0, 0, 0), Edge.STATE);
        x.draft(1);
        Due.fill(x, 400, 1);
        Edge.refused(x, "9 before 10, the first", () -> x.word(0, 0, 0, 0), Edge.RANGE);
        Edge.refused(x, "9 before 10, the last", () -> x.word(1, 0, 0, 30001), Edge.RANGE);
        x.lay(0);
        x.take(0);
        Edge.refused(x, "11 before 10", () -> x.word(1, 0, 0, 0), Edge.STATE);
    }

    // 16 second(s)

    /** "7." */
    private static void secondNothing() {
        MotionFloor x = Due.sitting(3);
        Edge.refused(x, "second(1)", () -> x.second(1), Edge.PENDING);
    }

    private static MotionFloor notSeconded() {
        MotionFloor x = Due.sitting(4);
        Due.write(x, 1, 5);
        Edge.moveAlone(x, 1);
        return x;
    }

    /** "9." */
    private static void secondNoSuchSeat() {
        MotionFloor x = notSeconded();
        Edge.refused(x, "second(4)", () -> x.second(4), Edge.RANGE);
        Edge.refused(x, "second(-1)", () -> x.second(-1), Edge.RANGE);
        Edge.refused(x, "second(MIN)", () -> x.second(LEAST), Edge.RANGE);
        Edge.refused(x, "second(MAX)", () -> x.second(MOST), Edge.RANGE);
        Edge.done(x, "second(3)", () -> x.second(3), 1);
    }

    /** "8." */
    private static void secondNotThere() {
        MotionFloor x = notSeconded();
        x.gone(3);
        Edge.refused(x, "second(3)", () -> x.second(3), Edge.THERE);
    }

    /** "3 the TOP has one already." SEAT 0, too. */
    private static void secondHasOne() {
        MotionFloor x = notSeconded();
        x.chair(3);
        Edge.done(x, "second(0)", () -> x.second(0), 1);
        Due.due("pending(0, 2)", x.pending(0, 2), 0);
        Edge.refused(x, "second(0) again", () -> x.second(0), Edge.SECONDED);
        Edge.refused(x, "second(2)", () -> x.second(2), Edge.SECONDED);
    }

    /** "Or is a RULING", appealed or not. */
    private static void secondRuling() {
        MotionFloor x = Due.sitting(4);
        Due.bring(x, 1, 5);
        x.rule();
        Edge.refused(x, "second(2)", () -> x.second(2), Edge.SECONDED);
        x.appeal(3);
        Edge.refused(x, "second(2), appealed", () -> x.second(2), Edge.SECONDED);
    }

    /** "2 it is the mover, or the CHAIR." */
    private static void secondMoverOrChair() {
        MotionFloor x = notSeconded();
        Edge.refused(x, "second(1), the mover", () -> x.second(1), Edge.FLOOR);
        Edge.refused(x, "second(0), the CHAIR", () -> x.second(0), Edge.FLOOR);
        x.chair(2);
        Edge.refused(x, "second(2), the CHAIR now", () -> x.second(2), Edge.FLOOR);
        x.chair(1);
        Edge.refused(x, "second(1), both", () -> x.second(1), Edge.FLOOR);
        Edge.done(x, "second(2), neither", () -> x.second(2), 1);
    }

    /** "In each act in the order told there." */
    private static void secondFirstReason() {
        MotionFloor x = Due.sitting(4);
        Edge.refused(x, "7 before 9", () -> x.second(4), Edge.PENDING);
        x.gone(3);
        Edge.refused(x, "7 before 8", () -> x.second(3), Edge.PENDING);
        Due.write(x, 1, 5);
        Edge.moveAlone(x, 1);
        x.gone(1);
        Edge.refused(x, "8 before 2, the mover", () -> x.second(1), Edge.THERE);
        x.gone(0);
        Edge.refused(x, "8 before 2, the CHAIR", () -> x.second(0), Edge.THERE);
        x.second(2);
        Edge.refused(x, "9 before 3", () -> x.second(4), Edge.RANGE);
        Edge.refused(x, "8 before 3", () -> x.second(3), Edge.THERE);
        x.there(1);
        Edge.refused(x, "3 before 2", () -> x.second(1), Edge.SECONDED);
    }

    // 17 vote(s, how)

    /** "7." */
    private static void voteNothing() {
        MotionFloor x = Due.sitting(3);
        Edge.refused(x, "vote(1, 1)", () -> x.vote(1, 1), Edge.PENDING);
    }

    /** "9 (how 0 no, 1 yes, 2 none any more)." */
    private static void voteRange() {
        MotionFloor x = Due.sitting(4);
        Due.bring(x, 1, 5);
        Edge.refused(x, "vote(4, 1)", () -> x.vote(4, 1), Edge.RANGE);
        Edge.refused(x, "vote(-1, 1)", () -> x.vote(-1, 1), Edge.RANGE);
        Edge.refused(x, "vote(MAX, 1)", () -> x.vote(MOST, 1), Edge.RANGE);
        Edge.refused(x, "vote(1, 3)", () -> x.vote(1, 3), Edge.RANGE);
        Edge.refused(x, "vote(1, -1)", () -> x.vote(1, -1), Edge.RANGE);
        Edge.refused(x, "vote(1, MIN)", () -> x.vote(1, LEAST), Edge.RANGE);
        Edge.refused(x, "vote(1, MAX)", () -> x.vote(1, MOST), Edge.RANGE);
        Edge.done(x, "vote(3, 0)", () -> x.vote(3, 0), 1);
    }

    /** "8." */
    private static void voteNotThere() {
        MotionFloor x = Due.sitting(4);
        Due.bring(x, 1, 5);
        x.vote(3, 1);
        x.gone(3);
        Edge.refused(x, "vote(3, 2)", () -> x.vote(3, 2), Edge.THERE);
        Due.due("its VOTE stays", x.ballot(3), 1);
    }

    /** "3 as in debate()": the TOP has no seconder. */
    private static void voteNotSeconded() {
        MotionFloor x = notSeconded();
        Edge.refused(x, "vote(2, 1)", () -> x.vote(2, 1), Edge.SECONDED);
        Edge.refused(x, "vote(2, 2)", () -> x.vote(2, 2), Edge.SECONDED);
        x.second(3);
        Edge.done(x, "vote(2, 1)", () -> x.vote(2, 1), 1);
    }

    /** "3 as in debate()": a RULING that was not appealed. */
    private static void voteRuling() {
        MotionFloor x = Due.sitting(4);
        Due.bring(x, 1, 5);
        x.vote(1, 1);
        x.rule();
        Edge.refused(x, "vote(2, 1)", () -> x.vote(2, 1), Edge.SECONDED);
        x.appeal(1);
        Edge.done(x, "vote(2, 1), appealed", () -> x.vote(2, 1), 1);
        Edge.done(x, "vote(0, 0) of the CHAIR", () -> x.vote(0, 0), 2);
    }

    /** "How many SEATS have a vote then": all of the most SEATS, and down to none. */
    private static void voteHow() {
        MotionFloor x = Due.sitting(200);
        Due.bring(x, 1, 5);
        Edge.done(x, "vote(1, 2) of none", () -> x.vote(1, 2), 0);
        for (int s = 0; s < 200; s++) {
            Due.due("vote(" + s + ")", x.vote(s, s % 2), s + 1);
        }
        Edge.done(x, "vote(199, 0), another one", () -> x.vote(199, 0), 200);
        Edge.done(x, "vote(199, 0), the same", () -> x.vote(199, 0), 200);
        Edge.done(x, "vote(199, 2)", () -> x.vote(199, 2), 199);
        MotionFloor y = Due.sitting(4);
        Due.bring(y, 1, 5);
        y.vote(0, 0);
        y.vote(3, 1);
        Edge.done(y, "vote(0, 2) of two", () -> y.vote(0, 2), 1);
        Edge.done(y, "vote(3, 2) of one", () -> y.vote(3, 2), 0);
        Edge.done(y, "vote(3, 2) of none", () -> y.vote(3, 2), 0);
        Due.due("ballot(3)", y.ballot(3), -1);
    }

    /** "In each act in the order told there." */
    private static void voteFirstReason() {
        MotionFloor x = Due.sitting(4);
        Edge.refused(x, "7 before 9", () -> x.vote(9, 9), Edge.PENDING);
        x.gone(3);
        Edge.refused(x, "7 before 8", () -> x.vote(3, 1), Edge.PENDING);
        Due.write(x, 1, 5);
        Edge.moveAlone(x, 1);
        Edge.refused(x, "9 before 8", () -> x.vote(3, 3), Edge.RANGE);
        Edge.refused(x, "9 before 3", () -> x.vote(2, 3), Edge.RANGE);
        Edge.refused(x, "8 before 3", () -> x.vote(3, 1), Edge.THERE);
    }

    // 18 withdraw(s)

    /** "7." */
    private static void withdrawNothing() {
        MotionFloor x = Due.sitting(3);
        Edge.refused(x, "withdraw(1)", () -> x.withdraw(1), Edge.PENDING);
        Edge.refused(x, "withdraw(-1)", () -> x.withdraw(-1), Edge.PENDING);
    }

    /** "2 it is not the mover": such that there are not, and the mover of the one below, too. */
    private static void withdrawNotMover() {
        MotionFloor x = Due.sitting(4);
        Due.bring(x, 1, 5);
        Due.write(x, 4, 6);
        Edge.moveAlone(x, 3);
        Edge.refused(x, "withdraw(1), the mover of the one below", () -> x.withdraw(1), Edge.FLOOR);
        Edge.refused(x, "withdraw(0), the CHAIR", () -> x.withdraw(0), Edge.FLOOR);
        Edge.refused(x, "withdraw(4)", () -> x.withdraw(4), Edge.FLOOR);
        Edge.refused(x, "withdraw(-1)", () -> x.withdraw(-1), Edge.FLOOR);
        Edge.refused(x, "withdraw(MIN)", () -> x.withdraw(LEAST), Edge.FLOOR);
        Edge.refused(x, "withdraw(MAX)", () -> x.withdraw(MOST), Edge.FLOOR);
        Edge.done(x, "withdraw(3)", () -> x.withdraw(3), 1);
    }

    /** "Or a RULING." */
    private static void withdrawRuling() {
        MotionFloor x = Due.sitting(4);
        Due.bring(x, 1, 5);
        x.rule();
        Edge.refused(x, "withdraw(0), its mover", () -> x.withdraw(0), Edge.FLOOR);
        Edge.refused(x, "withdraw(1)", () -> x.withdraw(1), Edge.FLOOR);
    }

    /** "8"; behind 2. */
    private static void withdrawNotThere() {
        MotionFloor x = Due.sitting(4);
        Due.bring(x, 1, 5);
        x.gone(1);
        x.gone(3);
        Edge.refused(x, "withdraw(1)", () -> x.withdraw(1), Edge.THERE);
        Edge.refused(x, "withdraw(3), 2 before 8", () -> x.withdraw(3), Edge.FLOOR);
        Due.due("it is PENDING", x.count(6), 1);
    }

    /** "The TOP is gone. How many are PENDING." Seconded, voted on, and the last one, too. */
    private static void withdrawTop() {
        MotionFloor x = Due.sitting(4);
        Due.bring(x, 1, 5);
        Due.bring(x, 6);
        x.vote(1, 1);
        Edge.done(x, "withdraw(1) of two", () -> x.withdraw(1), 1);
        Due.due("the MAIN is not CLOSED", x.pending(0, 8), 0);
        Edge.done(x, "withdraw(1) of one", () -> x.withdraw(1), 0);
        Edge.refused(x, "withdraw(1) of none", () -> x.withdraw(1), Edge.PENDING);
        Due.due("no RESULT", x.count(9), 0);
    }

    // 19 rule()

    /** "8 no CHAIR that is THERE": none, and one that is gone. */
    private static void ruleNoChair() {
        MotionFloor x = new MotionFloor();
        x.seats(3);
        x.there(1);
        x.there(2);
        Due.bring(x, 1, 5);
        Edge.refused(x, "rule(), no CHAIR", () -> x.rule(), Edge.THERE);
        x.there(0);
        x.chair(0);
        x.gone(0);
        Edge.refused(x, "rule(), it is gone", () -> x.rule(), Edge.THERE);
        x.there(0);
        Edge.done(x, "rule()", () -> x.rule(), 9);
    }

    /** "7." */
    private static void ruleNothing() {
        MotionFloor x = Due.sitting(3);
        Edge.refused(x, "rule()", () -> x.rule(), Edge.PENDING);
    }

    /** "11 the TOP is a RULING." */
    private static void ruleOnRuling() {
        MotionFloor x = Due.sitting(3);
        Due.bring(x, 1, 5);
        x.rule();
        Edge.refused(x, "rule()", () -> x.rule(), Edge.STATE);
        x.appeal(1);
        Edge.refused(x, "rule(), appealed", () -> x.rule(), Edge.STATE);
    }

    /** "10: 9 are PENDING." */
    private static void ruleOnNine() {
        MotionFloor x = Edge.ninePending(8);
        Edge.refused(x, "rule() on 9", () -> x.rule(), Edge.ROOM);
        x.withdraw(1);
        Edge.done(x, "rule() on 8", () -> x.rule(), 9);
        Due.due("count(6)", x.count(6), 9);
    }

    /** "A RULING (mover: the CHAIR) on the TOP is PENDING", on one that is not seconded, too. */
    private static void ruleMover() {
        MotionFloor x = notSeconded();
        x.chair(3);
        Edge.done(x, "rule()", () -> x.rule(), 9);
        Due.duePending(x, 1, 9, 3, -1, 0, 0, 0, 0, 0, 0, 0);
    }

    /** "In each act in the order told there." */
    private static void ruleFirstReason() {
        MotionFloor x = Due.sitting(4);
        x.gone(0);
        Edge.refused(x, "8 before 7", () -> x.rule(), Edge.THERE);
        MotionFloor y = Edge.ninePending(8);
        y.withdraw(1);
        y.rule();
        Edge.refused(y, "11 before 10", () -> y.rule(), Edge.STATE);
        y.gone(0);
        Edge.refused(y, "8 before 11", () -> y.rule(), Edge.THERE);
        MotionFloor z = Edge.ninePending(7);
        z.gone(0);
        Edge.refused(z, "8 before 10", () -> z.rule(), Edge.THERE);
    }

    // 20 appeal(s)

    /** "7." */
    private static void appealNothing() {
        MotionFloor x = Due.sitting(3);
        Edge.refused(x, "appeal(1)", () -> x.appeal(1), Edge.PENDING);
    }

    /** "11 the TOP is no RULING." */
    private static void appealNoRuling() {
        MotionFloor x = notSeconded();
        Edge.refused(x, "appeal(2)", () -> x.appeal(2), Edge.STATE);
        Due.due("it is not seconded", x.pending(0, 2), -1);
    }

    private static MotionFloor ruled() {
        MotionFloor x = Due.sitting(4);
        Due.bring(x, 1, 5);
        x.rule();
        return x;
    }

    /** "Or was appealed." By SEAT 0, too. */
    private static void appealTwice() {
        MotionFloor x = ruled();
        x.chair(3);
        Edge.done(x, "appeal(0)", () -> x.appeal(0), 1);
        Due.due("pending(1, 2)", x.pending(1, 2), 0);
        Edge.refused(x, "appeal(0) again", () -> x.appeal(0), Edge.STATE);
        Edge.refused(x, "appeal(2)", () -> x.appeal(2), Edge.STATE);
    }

    /** "9." */
    private static void appealNoSuchSeat() {
        MotionFloor x = ruled();
        Edge.refused(x, "appeal(4)", () -> x.appeal(4), Edge.RANGE);
        Edge.refused(x, "appeal(-1)", () -> x.appeal(-1), Edge.RANGE);
        Edge.refused(x, "appeal(MIN)", () -> x.appeal(LEAST), Edge.RANGE);
        Edge.refused(x, "appeal(MAX)", () -> x.appeal(MOST), Edge.RANGE);
        Edge.done(x, "appeal(3)", () -> x.appeal(3), 1);
    }

    /** "8." */
    private static void appealNotThere() {
        MotionFloor x = ruled();
        x.gone(3);
        Edge.refused(x, "appeal(3)", () -> x.appeal(3), Edge.THERE);
    }

    /** "2 it is the CHAIR": the one that there is, not the one that has ruled. */
    private static void appealOfTheChair() {
        MotionFloor x = ruled();
        Edge.refused(x, "appeal(0)", () -> x.appeal(0), Edge.FLOOR);
        x.chair(2);
        Edge.refused(x, "appeal(2)", () -> x.appeal(2), Edge.FLOOR);
        Edge.done(x, "appeal(0), no more the CHAIR", () -> x.appeal(0), 1);
    }

    /** "In each act in the order told there." */
    private static void appealFirstReason() {
        MotionFloor x = Due.sitting(4);
        Edge.refused(x, "7 before 9", () -> x.appeal(4), Edge.PENDING);
        Due.bring(x, 1, 5);
        Edge.refused(x, "11 before 9", () -> x.appeal(4), Edge.STATE);
        x.gone(3);
        Edge.refused(x, "11 before 8", () -> x.appeal(3), Edge.STATE);
        Edge.refused(x, "11 before 2", () -> x.appeal(0), Edge.STATE);
        x.rule();
        x.gone(0);
        Edge.refused(x, "8 before 2", () -> x.appeal(0), Edge.THERE);
    }
}
