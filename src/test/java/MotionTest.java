/** Promises 17 .. 29 and 32: motions are moved, seconded, voted on, withdrawn, ruled on and told. */
public final class MotionTest {
    private static final int LEAST = Integer.MIN_VALUE;
    private static final int MOST = Integer.MAX_VALUE;

    public static void main(String[] args) {
        moveRefused();
        moveByRank();
        moveOfLaid();
        subjectByTabled();
        subjectOfPostponed();
        moveRoomOfPending();
        moveRoomOfText();
        postponedAndTabled();
        second();
        vote();
        withdraw();
        rule();
        ruleRoom();
        appeal();
        toldRefused();
        toldByKinds();
        toldWithoutSeconder();
        toldWithSeatNoughtAsSeconder();
        toldRulings();
        toldCommitPostponeTable();
        adjourn();
        orderAndWhy();
        pendingAndText();
        ballot();
        result();
        Due.end();
    }

    private static void due(String call, int got, int want) {
        Due.due(call, got, want);
    }

    private static void moveRefused() {
        MotionFloor x = Due.sitting(4);
        due("move(1), no DRAFT", x.move(1), -11);
        x.draft(1);
        due("move(1) without THE FLOOR", x.move(1), -2);
        due("move(-1) without THE FLOOR", x.move(-1), -2);
        due("move(MAX)", x.move(MOST), -2);
        x.quorum(4);
        x.floor(1);
        due("move(2), another has it", x.move(2), -2);
        due("move(-1)", x.move(-1), -2);
        x.gone(3);
        due("move(1) below the QUORUM", x.move(1), -4);
        x.there(3);
        due("move(1) with just the QUORUM", x.move(1), 1);
        due("no DRAFT behind it", x.count(7), 0);
        due("nobody has THE FLOOR", x.count(5), -1);
        due("again", x.move(1), -11);
        Due.duePending(x, 0, 1, 1, -1, 0, 0, 0, 0, 0, 0, 0, -1);
        x.draft(2);
        x.floor(2);
        x.span(0, 1);
        x.gone(3);
        due("not seconded", x.move(2), -3);
        x.second(2);
        due("below the QUORUM", x.move(2), -4);
        x.there(3);
        due("SPAN beyond", x.move(2), -5);
        x.span(0, 0);
        due("move(2)", x.move(2), 2);
    }

    /** Of each KIND on each TOP: 1 if it is in order, else 0. */
    private static void dueRanks(MotionFloor x, int... ranks) {
        x.floor(3);
        for (int kind = 1; kind <= 8; kind++) {
            x.draft(kind);
            due("order(3) of " + kind + " on " + x.pending(x.count(6) - 1, 0), x.order(3), ranks[kind - 1]);
            due("why()", x.why(), ranks[kind - 1] == 1 ? 0 : 1);
        }
        x.cede();
    }

    private static void moveByRank() {
        MotionFloor x = Due.sitting(4);
        dueRanks(x, 1, 0, 0, 0, 0, 0, 0, 0);
        Due.bring(x, 1, 1, 2, 3);
        dueRanks(x, 0, 1, 0, 1, 1, 1, 1, 1);
        Due.bring(x, 2, 4, 5);
        dueRanks(x, 0, 0, 1, 1, 1, 1, 1, 1);
        Due.bring(x, 3, 6);
        dueRanks(x, 0, 0, 0, 1, 1, 1, 1, 1);
        Due.bring(x, 4, 7);
        dueRanks(x, 0, 1, 0, 0, 1, 1, 1, 1);
        Due.bring(x, 2, 8);
        dueRanks(x, 0, 0, 1, 0, 1, 1, 1, 1);
        Due.bring(x, 5, 9);
        dueRanks(x, 0, 1, 0, 0, 0, 1, 1, 1);
        Due.bring(x, 7);
        dueRanks(x, 0, 0, 0, 0, 0, 0, 0, 1);
        Due.bring(x, 8);
        dueRanks(x, 0, 0, 0, 0, 0, 0, 0, 0);
        Due.lose(x);
        Due.lose(x);
        x.rule();
        dueRanks(x, 0, 0, 0, 0, 0, 0, 0, 0);
        x.appeal(2);
        x.vote(2, 0);
        due("told()", x.told(), 5);
        x.floor(3);
        x.draft(6);
        due("move(3) of a CLOSE", x.move(3), 7);
        x.second(1);
        x.draft(7);
        due("order(3) on a CLOSE", x.order(3), 0);
        due("why()", x.why(), 2);
        x.draft(5);
        due("order(3) on a CLOSE", x.order(3), 0);
        due("why()", x.why(), 1);
    }

    private static void moveOfLaid() {
        MotionFloor x = Due.sitting(4);
        Due.bring(x, 1, 1, 2, 3);
        Due.layAmend(x, 0, 2, 1, 2, 7, 8);
        Due.layAmend(x, 1, 2, 0, 1, 9);
        x.take(0);
        x.floor(3);
        due("move(3) of a LAID one", x.move(3), 2);
        Due.duePending(x, 1, 2, 3, -1, 2, 1, 2, 0, 0, 0, 0, -1);
        Due.dueText(x, 1, 7, 8);
        x.second(1);
        Due.carry(x);
        Due.dueText(x, 0, 1, 7, 8, 3);
        Due.lose(x);
        Due.bring(x, 1, 1, 2, 3);
        x.take(1);
        x.floor(1);
        due("on another MAIN", x.move(1), -5);
        due("why()", x.why(), 5);
        x.draft(4);
        x.cede();
        Due.bring(x);
        Due.write(x, 2, 5);
        x.floor(3);
        due("move(3) on the COMMIT", x.move(3), 3);
    }

    /** A SUBJECT that is TABLED comes back as itself. */
    private static void subjectByTabled() {
        MotionFloor x = Due.sitting(4);
        Due.bring(x, 1, 1, 2, 3);
        Due.layAmend(x, 0, 2, 0, 1, 7);
        Due.bringAmend(x, 2, 1, 1, 8);
        Due.layAmend(x, 1, 3, 0, 1, 9);
        Due.bring(x, 7);
        Due.carry(x);
        due("TABLED", x.desk(2, 0), 3);
        Due.bring(x, 1, 1, 2, 3);
        x.take(0);
        x.floor(1);
        due("its SUBJECT is TABLED", x.move(1), -5);
        due("lay(0)", x.lay(0), 0);
        x.cede();
        Due.lose(x);
        x.take(2);
        x.floor(3);
        due("move(3) of the TABLED row", x.move(3), 2);
        x.take(1);
        x.floor(1);
        due("the SECOND's SUBJECT is back", x.move(1), 3);
        x.second(2);
        Due.carry(x);
        Due.carry(x);
        Due.dueText(x, 0, 1, 9, 2, 3);
        x.take(0);
        x.floor(1);
        due("the AMEND's SUBJECT is back", x.move(1), 2);
    }

    /** One that was postponed is gone, and comes back as another one. */
    private static void subjectOfPostponed() {
        MotionFloor x = Due.sitting(4);
        Due.bring(x, 1, 1, 2, 3);
        Due.layAmend(x, 0, 2, 0, 1, 7);
        Due.bring(x, 5, 8);
        Due.carry(x);
        due("desk(1, 0)", x.desk(1, 0), 2);
        x.take(1);
        x.floor(3);
        due("move(3)", x.move(3), 1);
        x.take(0);
        x.floor(1);
        due("its SUBJECT is gone", x.move(1), -5);
    }

    private static void moveRoomOfPending() {
        MotionFloor x = Due.sitting(4);
        Due.bring(x, 1, 1);
        Due.bring(x, 2, 2);
        Due.bring(x, 3, 3);
        Due.bring(x, 4, 4);
        Due.bring(x, 2, 5);
        Due.bring(x, 3, 6);
        Due.bring(x, 5, 7);
        Due.bring(x, 2, 8);
        x.draft(3);
        x.lay(0);
        Due.bring(x, 6);
        due("count(6)", x.count(6), 9);
        due("pending(8, 0)", x.pending(8, 0), 6);
        due("pending(9, 0)", x.pending(9, 0), -1);
        due("rule() on 9", x.rule(), -10);
        Due.carry(x);
        due("rule() on 8", x.rule(), 9);
        x.told();
        due("count(6)", x.count(6), 7);
        Due.bring(x, 2, 8);
        Due.bring(x, 7);
        x.draft(8);
        x.floor(3);
        due("move(3) on 9", x.move(3), -10);
        due("why()", x.why(), 10);
        due("order(3) on 9", x.order(3), 0);
        x.cede();
        x.draft(8);
        x.lay(1);
        Due.carry(x);
        Due.dueDesk(x, 2, 3, 8, 1, 0, 0, 0);
        due("all are TABLED", x.count(6), 0);
        x.take(2);
        x.floor(1);
        due("move(1) of 8", x.move(1), 8);
        due("pending(7, 0)", x.pending(7, 0), 2);
    }

    private static void moveRoomOfText() {
        MotionFloor x = Due.sitting(4);
        x.draft(1);
        Due.fill(x, 398, 1);
        Due.bring(x);
        x.floor(3);
        Due.write(x, 2, 1, 2, 3);
        x.span(5, 5);
        due("the MAIN would have 401", x.order(3), 0);
        due("why()", x.why(), 10);
        x.span(5, 6);
        due("the MAIN would have 400", x.order(3), 1);
        x.span(398, 398);
        due("move(3) with 401", x.move(3), -10);
        x.lay(0);
        x.take(0);
        due("move(3) with 401, LAID", x.move(3), -10);
        Due.write(x, 2, 1, 2);
        x.span(398, 398);
        due("move(3) with 400", x.move(3), 2);
        x.second(1);
        x.floor(3);
        Due.write(x, 3, 8, 9);
        x.span(0, 1);
        due("the AMEND's SUBJECT would have 401", x.move(3), -10);
        x.span(0, 2);
        due("the AMEND's SUBJECT would have 400", x.move(3), 3);
        x.second(1);
        Due.carry(x);
        Due.carry(x);
        due("pending(0, 3)", x.pending(0, 3), 400);
        due("text(0, 398)", x.text(0, 398), 8);
        due("text(0, 399)", x.text(0, 399), 9);
        x = Due.sitting(4);
        Due.bring(x, 1, 1, 2);
        x.draft(2);
        Due.fill(x, 400, 1);
        x.floor(3);
        due("402 in all", x.move(3), -10);
        x.span(0, 2);
        due("400 in all", x.move(3), 2);
        x.second(1);
        Due.write(x, 3, 8);
        x.floor(3);
        due("the AMEND would have 401", x.move(3), -10);
        x.span(399, 400);
        due("the AMEND would have 400", x.move(3), 3);
        x.second(1);
        Due.carry(x);
        Due.carry(x);
        due("text(0, 399)", x.text(0, 399), 8);
        due("text(0, 0)", x.text(0, 0), 1);
    }

    private static void postponedAndTabled() {
        MotionFloor x = Due.sitting(5);
        Due.bring(x, 1, 4, 5);
        x.floor(3);
        x.debate(3);
        x.vote(4, 1);
        x.cede();
        Due.bring(x, 5, 9);
        Due.carry(x);
        Due.dueDesk(x, 0, 2, 1, 2, 0, 0, 0);
        due("count(6)", x.count(6), 0);
        due("take(0)", x.take(0), 1);
        due("it was LAID", x.word(7, 0, 0, 0), -11);
        x.lay(6);
        x.take(6);
        x.floor(2);
        due("its seconder moves it", x.move(2), 1);
        Due.duePending(x, 0, 1, 2, 2, 2, 0, 0, 0, 0, 0, 0);
        due("second(3)", x.second(3), -3);
        x.floor(3);
        x.debate(3);
        x.cede();
        x.vote(4, 0);
        x.vote(3, 1);
        Due.bringAmend(x, 2, 1, 2, 6, 7);
        x.vote(4, 1);
        Due.bring(x, 7);
        Due.carry(x);
        Due.dueDesk(x, 0, 3, 2, 2, 0, 0, 0);
        x.limit(1);
        x.take(0);
        x.floor(4);
        due("move(4)", x.move(4), 2);
        Due.duePending(x, 0, 1, 2, 2, 2, 0, 0, 2, 1, 0, 2);
        Due.duePending(x, 1, 2, 1, 2, 2, 1, 2, 1, 0, 0, 1);
        due("ballot(4)", x.ballot(4), 1);
        due("floor(3), more FLOORS than LIMIT", x.floor(3), -6);
        Due.carry(x);
        due("ballot(4)", x.ballot(4), 0);
        due("ballot(3)", x.ballot(3), 1);
        Due.dueText(x, 0, 4, 6, 7);
    }

    private static void second() {
        MotionFloor x = Due.sitting(5);
        x.gone(4);
        due("second(1), nothing PENDING", x.second(1), -7);
        due("second(9), nothing PENDING", x.second(9), -7);
        Due.write(x, 1, 5);
        x.floor(1);
        x.move(1);
        due("second(5)", x.second(5), -9);
        due("second(-1)", x.second(-1), -9);
        due("second(4), not THERE", x.second(4), -8);
        due("second(1), the mover", x.second(1), -2);
        due("second(0), the CHAIR", x.second(0), -2);
        due("second(3)", x.second(3), 1);
        due("pending(0, 2)", x.pending(0, 2), 3);
        due("second(2)", x.second(2), -3);
        due("second(1), seconded", x.second(1), -3);
        due("second(4), seconded", x.second(4), -8);
        x.rule();
        due("second(2) of a RULING", x.second(2), -3);
    }

    private static void vote() {
        MotionFloor x = Due.sitting(5);
        x.gone(4);
        due("vote(1, 1), nothing PENDING", x.vote(1, 1), -7);
        Due.write(x, 1, 5);
        x.floor(1);
        x.move(1);
        due("vote(5, 1)", x.vote(5, 1), -9);
        due("vote(-1, 1)", x.vote(-1, 1), -9);
        due("vote(1, 3)", x.vote(1, 3), -9);
        due("vote(1, -1)", x.vote(1, -1), -9);
        due("vote(4, 3)", x.vote(4, 3), -9);
        due("vote(4, 1)", x.vote(4, 1), -8);
        due("vote(1, 1), not seconded", x.vote(1, 1), -3);
        due("vote(1, 2), not seconded", x.vote(1, 2), -3);
        x.second(2);
        due("vote(1, 2)", x.vote(1, 2), 0);
        due("vote(1, 1)", x.vote(1, 1), 1);
        due("vote(1, 0)", x.vote(1, 0), 1);
        due("vote(0, 1), the CHAIR", x.vote(0, 1), 2);
        due("vote(3, 0)", x.vote(3, 0), 3);
        due("vote(3, 2)", x.vote(3, 2), 2);
        due("vote(3, 2)", x.vote(3, 2), 2);
        due("vote(2, 1)", x.vote(2, 1), 3);
        due("pending(0, 9)", x.pending(0, 9), 3);
        x.gone(2);
        due("a SEAT that is gone has its VOTE still", x.pending(0, 9), 3);
        due("ballot(2)", x.ballot(2), 1);
        due("told()", x.told(), 2);
        Due.dueResult(x, 0, x.count(8) - 1, 1, 2, 1, 1, -1);
        x.there(2);
        Due.bring(x, 1, 5);
        x.gone(2);
        x.vote(1, 0);
        x.there(2);
        x.vote(2, 1);
        x.vote(3, 1);
        x.gone(1);
        due("told()", x.told(), 1);
        Due.dueResult(x, 1, x.count(8) - 1, 1, 1, 2, 0, -1);
        x.there(1);
        Due.bring(x, 1, 6);
        x.rule();
        due("vote(1, 1) on a RULING", x.vote(1, 1), -3);
        x.appeal(3);
        due("vote(1, 1) on an appealed one", x.vote(1, 1), 1);
    }

    private static void withdraw() {
        MotionFloor x = Due.sitting(4);
        due("withdraw(1), nothing PENDING", x.withdraw(1), -7);
        Due.bring(x, 1, 5);
        Due.bring(x, 4, 6);
        due("withdraw(2)", x.withdraw(2), -2);
        due("withdraw(-1)", x.withdraw(-1), -2);
        due("withdraw(MIN)", x.withdraw(LEAST), -2);
        due("withdraw(99)", x.withdraw(99), -2);
        x.gone(1);
        due("withdraw(1), not THERE", x.withdraw(1), -8);
        due("withdraw(2)", x.withdraw(2), -2);
        x.there(1);
        x.floor(3);
        due("withdraw(1)", x.withdraw(1), 1);
        due("THE FLOOR stays", x.count(5), 3);
        due("no RESULT", x.count(9), 0);
        x.rule();
        due("withdraw(0) of a RULING", x.withdraw(0), -2);
        x.told();
        due("withdraw(1)", x.withdraw(1), -7);
    }

    private static void rule() {
        MotionFloor x = new MotionFloor();
        x.seats(4);
        due("rule(), no CHAIR", x.rule(), -8);
        x.there(0);
        x.there(1);
        x.there(2);
        x.chair(0);
        due("rule(), nothing PENDING", x.rule(), -7);
        Due.bring(x, 1, 5);
        x.gone(0);
        due("rule(), the CHAIR is not THERE", x.rule(), -8);
        x.there(0);
        x.floor(1);
        due("rule()", x.rule(), 9);
        due("THE FLOOR stays", x.count(5), 1);
        Due.duePending(x, 1, 9, 0, -1, 0, 0, 0, 0, 0, 0, 0, -1);
        due("rule() on a RULING", x.rule(), -11);
        due("count(6)", x.count(6), 2);
        due("text(1, 0)", x.text(1, 0), -1);
    }

    /** Of what ails a rule(), the one that is told first. */
    private static void ruleRoom() {
        MotionFloor x = Due.sitting(3);
        Due.bring(x, 1, 5);
        x.rule();
        x.gone(0);
        due("rule() without the CHAIR, on a RULING", x.rule(), -8);
    }

    private static void appeal() {
        MotionFloor x = Due.sitting(5);
        x.gone(4);
        due("appeal(1), nothing PENDING", x.appeal(1), -7);
        Due.bring(x, 1, 5);
        due("appeal(1) on a MAIN", x.appeal(1), -11);
        due("appeal(9) on a MAIN", x.appeal(9), -11);
        x.rule();
        due("appeal(5)", x.appeal(5), -9);
        due("appeal(-1)", x.appeal(-1), -9);
        due("appeal(4), not THERE", x.appeal(4), -8);
        due("appeal(0), the CHAIR", x.appeal(0), -2);
        due("appeal(1)", x.appeal(1), 1);
        Due.duePending(x, 1, 9, 0, 1, 0, 0, 0, 0, 0, 0, 0, -1);
        due("appeal(2), appealed", x.appeal(2), -11);
        x.vote(1, 0);
        x.told();
        x.rule();
        x.chair(3);
        due("appeal(3), the CHAIR now", x.appeal(3), -2);
        due("appeal(0), who has ruled", x.appeal(0), 1);
    }

    private static void toldRefused() {
        MotionFloor x = new MotionFloor();
        x.seats(3);
        due("told(), no CHAIR", x.told(), -8);
        x.there(0);
        x.chair(0);
        due("told(), nothing PENDING", x.told(), -7);
        x.gone(0);
        due("told(), the CHAIR not THERE", x.told(), -8);
        due("adjourn(), the CHAIR not THERE", x.adjourn(), -8);
    }

    private static void toldByKinds() {
        MotionFloor x = Due.sitting(4);
        Due.bring(x, 1, 5, 6);
        x.floor(3);
        Due.carry(x);
        due("nobody has THE FLOOR", x.count(5), -1);
        Due.dueText(x, -1, 5, 6);
        due("count(10)", x.count(10), 2);
        due("count(11)", x.count(11), 1);
        Due.bring(x, 1, 7);
        Due.lose(x);
        Due.dueText(x, -1, 5, 6);
        due("count(11)", x.count(11), 1);
        Due.bring(x, 1);
        Due.carry(x);
        due("an ADOPTED one without words", x.count(10), 0);
        Due.dueText(x, -1);
        due("count(11)", x.count(11), 2);
        Due.bring(x, 1, 1, 2, 3);
        Due.bringAmend(x, 2, 0, 2);
        x.floor(3);
        Due.lose(x);
        due("nobody has THE FLOOR", x.count(5), -1);
        Due.dueText(x, 0, 1, 2, 3);
        Due.bringAmend(x, 2, 0, 2);
        Due.carry(x);
        Due.dueText(x, 0, 3);
        Due.bringAmend(x, 2, 1, 1, 8, 9);
        Due.carry(x);
        Due.dueText(x, 0, 3, 8, 9);
        Due.bring(x, 8);
        Due.carry(x);
        due("nobody is THERE", x.count(1), 0);
        for (int s = 0; s < 4; s++) {
            due("seat(" + s + ")", x.seat(s), 0);
        }
        due("the RECESS is gone", x.count(6), 1);
        due("the CHAIR stays", x.count(2), 0);
        due("there(1)", x.there(1), 1);
        due("there(2)", x.there(2), 2);
        due("there(0)", x.there(0), 3);
        Due.bring(x, 6);
        Due.lose(x);
        due("a CLOSE that is LOST", x.pending(0, 8), 0);
        Due.bring(x, 6);
        Due.carry(x);
        due("CLOSED", x.pending(0, 8), 1);
        due("count(6)", x.count(6), 1);
    }

    private static void toldWithoutSeconder() {
        MotionFloor x = Due.sitting(4);
        Due.bring(x, 1, 5);
        Due.write(x, 4, 6);
        x.floor(3);
        x.move(3);
        x.floor(1);
        due("told()", x.told(), 3);
        due("it is gone", x.count(6), 1);
        due("nobody has THE FLOOR", x.count(5), -1);
        Due.dueResult(x, 0, x.count(8) - 1, 4, 3, 0, 0, -1);
        Due.dueDesk(x, 0, 0, 0);
    }

    private static void toldWithSeatNoughtAsSeconder() {
        MotionFloor x = Due.sitting(4);
        x.chair(3);
        Due.write(x, 1, 5);
        x.floor(1);
        due("move(1)", x.move(1), 1);
        due("second(0)", x.second(0), 1);
        due("floor(0)", x.floor(0), 1);
        due("debate(0)", x.debate(0), 1);
        x.cede();
        x.vote(0, 1);
        x.vote(1, 1);
        x.vote(2, 0);
        x.rule();
        due("appeal(0)", x.appeal(0), 1);
        x.vote(2, 1);
        x.vote(0, 0);
        x.vote(1, 0);
        due("told()", x.told(), 5);
        Due.dueResult(x, 0, x.count(8) - 1, 9, 5, 1, 2);
        due("told()", x.told(), 1);
        Due.dueResult(x, 1, x.count(8) - 1, 1, 1, 2, 1);
    }

    private static void toldRulings() {
        MotionFloor x = Due.sitting(5);
        Due.bring(x, 1, 5);
        Due.bring(x, 2, 6);
        x.vote(1, 1);
        x.rule();
        x.floor(3);
        due("a RULING STANDS", x.told(), 4);
        due("with the motion below it is gone", x.count(6), 1);
        due("nobody has THE FLOOR", x.count(5), -1);
        Due.dueResult(x, 0, x.count(8) - 1, 9, 4, 0, 0, -1);
        Due.dueText(x, 0, 5);
        Due.bring(x, 2, 6);
        x.vote(1, 1);
        x.rule();
        x.appeal(3);
        x.vote(1, 0);
        x.vote(2, 1);
        due("a tie STANDS", x.told(), 4);
        due("count(6)", x.count(6), 1);
        Due.dueResult(x, 1, x.count(8) - 1, 9, 4, 1, 1, -1);
        x.rule();
        x.appeal(3);
        x.vote(1, 0);
        due("OVERTURNED", x.told(), 5);
        due("count(6)", x.count(6), 1);
        Due.dueResult(x, 2, x.count(8) - 1, 9, 5, 0, 1, -1);
        x.rule();
        x.appeal(3);
        x.vote(1, 0);
        x.vote(2, 0);
        x.vote(0, 1);
        x.gone(1);
        x.gone(2);
        due("by those that are THERE", x.told(), 4);
        due("count(6)", x.count(6), 0);
        Due.dueText(x, -1);
    }

    private static void toldCommitPostponeTable() {
        for (int kind = 4; kind <= 7; kind++) {
            if (kind == 6) {
                continue;
            }
            MotionFloor x = Due.sitting(4);
            x.draft(8);
            x.lay(0);
            Due.bring(x, 1, 5, 6);
            Due.bringAmend(x, 2, 0, 1, 7, 8, 9);
            Due.bring(x, kind);
            x.floor(kind == 6 ? 0 : 3);
            Due.lose(x);
            due("LOST: just it is gone", x.count(6), 2);
            Due.dueDesk(x, 1, 0, 0);
            Due.bring(x, kind);
            Due.carry(x);
            due("all are gone", x.count(6), 0);
            due("nothing is ADOPTED", x.count(11), 0);
            due("count(7)", x.count(7), 0);
            Due.dueDesk(x, 1, kind == 4 ? 1 : kind == 5 ? 2 : 3, kind == 7 ? 2 : 1, 2, 0, 0, 0);
            Due.dueDesk(x, 2, 0, 0);
            due("lying(1, 1)", x.lying(1, 1), 6);
            due("lying(1, 2)", x.lying(1, 2), -1);
            Due.dueResult(x, 1, x.count(8) - 1, kind, 1, 2, 0, -1);
        }
    }

    private static void adjourn() {
        MotionFloor x = new MotionFloor();
        due("adjourn(), no CHAIR", x.adjourn(), -8);
        x = Due.sitting(4);
        due("adjourn()", x.adjourn(), 0);
        Due.bring(x, 1, 5);
        Due.layAmend(x, 2, 2, 0, 1, 6);
        Due.bring(x, 2, 5);
        x.draft(4);
        x.floor(3);
        due("adjourn()", x.adjourn(), 2);
        due("count(6)", x.count(6), 0);
        due("count(7)", x.count(7), 0);
        due("count(5)", x.count(5), -1);
        due("count(1)", x.count(1), 4);
        due("count(9)", x.count(9), 0);
        Due.dueDesk(x, 2, 2, 2, 1, 0, 1, 0);
        due("pending(0, 0)", x.pending(0, 0), -1);
        x.take(2);
        due("adjourn()", x.adjourn(), 0);
        due("count(7)", x.count(7), 0);
        Due.dueDesk(x, 2, 0, 0);
    }

    private static void orderAndWhy() {
        MotionFloor x = Due.sitting(4);
        due("order(1), no DRAFT", x.order(1), 0);
        due("why()", x.why(), 11);
        due("why() again", x.why(), 11);
        x.draft(1);
        due("why() behind an act", x.why(), 0);
        due("order(1)", x.order(1), 0);
        due("why()", x.why(), 2);
        due("order(-1)", x.order(-1), 0);
        due("order(MAX)", x.order(MOST), 0);
        x.floor(1);
        int entries = x.count(8);
        due("order(1)", x.order(1), 1);
        due("why()", x.why(), 0);
        due("it is no ENTRY", x.count(8), entries);
        due("nothing is PENDING", x.count(6), 0);
        due("THE DRAFT stays", x.count(7), 1);
        due("THE FLOOR stays", x.count(5), 1);
        due("order(2)", x.order(2), 0);
        due("why()", x.why(), 2);
        x.count(0);
        x.image(5);
        x.seats(0);
        x.back(1);
        x.tell(1, 0, 0, 0, 0, 0);
        x.check();
        x.again();
        x.before(3, 0, 0);
        x.strike();
        x.journal(0, 0);
        x.image(0);
        due("why() behind what is no act", x.why(), 2);
        due("move(1)", x.move(1), 1);
        due("why()", x.why(), 0);
        due("second(9)", x.second(9), -9);
        due("why()", x.why(), 9);
        x.back(0);
        due("why() behind back(0)", x.why(), 0);
    }

    private static void pendingAndText() {
        MotionFloor x = Due.sitting(4);
        Due.bring(x, 1, 5, 6, 7);
        Due.bringAmend(x, 2, 1, 3, 8);
        Due.write(x, 3, 9, 10);
        Due.duePending(x, 0, 1, 1, 2, 3, 0, 0, 1, 0, 0, 0, -1);
        Due.duePending(x, 1, 2, 1, 2, 1, 1, 3, 0, 0, 0, 0, -1);
        due("pending(0, -1)", x.pending(0, -1), -1);
        due("pending(2, 0)", x.pending(2, 0), -1);
        due("pending(-1, 0)", x.pending(-1, 0), -1);
        due("pending(9, 0)", x.pending(9, 0), -1);
        due("pending(MAX, MIN)", x.pending(MOST, LEAST), -1);
        due("pending(MIN, 0)", x.pending(LEAST, 0), -1);
        Due.dueText(x, 0, 5, 6, 7);
        Due.dueText(x, 1, 8);
        Due.dueText(x, 9, 9, 10);
        Due.dueText(x, -1);
        Due.dueText(x, 2);
        Due.dueText(x, 8);
        Due.dueText(x, 10);
        Due.dueText(x, -2);
        due("text(MIN, 0)", x.text(LEAST, 0), -1);
        due("text(0, MAX)", x.text(0, MOST), -1);
    }

    private static void ballot() {
        MotionFloor x = Due.sitting(4);
        due("ballot(0), nothing PENDING", x.ballot(0), -1);
        Due.bring(x, 1, 5);
        x.vote(1, 1);
        x.vote(2, 0);
        x.vote(3, 1);
        x.vote(3, 2);
        due("ballot(0)", x.ballot(0), -1);
        due("ballot(1)", x.ballot(1), 1);
        due("ballot(2)", x.ballot(2), 0);
        due("ballot(3)", x.ballot(3), -1);
        due("ballot(4)", x.ballot(4), -1);
        due("ballot(-1)", x.ballot(-1), -1);
        due("ballot(MAX)", x.ballot(MOST), -1);
        Due.bring(x, 2, 6);
        due("ballot(1) on the AMEND", x.ballot(1), -1);
        Due.lose(x);
        due("ballot(1) on the MAIN", x.ballot(1), 1);
        x.told();
        Due.bring(x, 1, 5);
        due("ballot(1) on another MAIN", x.ballot(1), -1);
    }

    private static void result() {
        MotionFloor x = Due.sitting(4);
        due("result(0, 0)", x.result(0, 0), -1);
        Due.bring(x, 1, 5);
        Due.carry(x);
        Due.dueResult(x, 0, 12, 1, 1, 2, 0, -1);
        Due.bring(x, 1, 5);
        Due.lose(x);
        Due.dueResult(x, 0, 12, 1, 1, 2, 0, -1);
        Due.dueResult(x, 1, 20, 1, 2, 0, 2, -1);
        due("result(0, -1)", x.result(0, -1), -1);
        due("result(2, 0)", x.result(2, 0), -1);
        due("result(-1, 0)", x.result(-1, 0), -1);
        due("result(MAX, MAX)", x.result(MOST, MOST), -1);
        due("result(MIN, MIN)", x.result(LEAST, LEAST), -1);
        due("count(9)", x.count(9), 2);
    }
}
