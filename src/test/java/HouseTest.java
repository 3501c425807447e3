/** Promises 1 .. 11, 33 and 34: SEATS, what holds for all motions, THE FLOOR. */
public final class HouseTest {
    private static final int LEAST = Integer.MIN_VALUE;
    private static final int MOST = Integer.MAX_VALUE;

    public static void main(String[] args) {
        newObject();
        seats();
        there();
        gone();
        quorum();
        chair();
        majority();
        majoritySorts();
        limit();
        floor();
        floorOfClosed();
        cede();
        debate();
        count();
        Due.end();
    }

    private static void due(String call, int got, int want) {
        Due.due(call, got, want);
    }

    private static void newObject() {
        MotionFloor x = new MotionFloor();
        int[] counts = {1, 0, -1, 0, 0, -1, 0, 0, 0, 0, -1, 0, 0};
        for (int what = 0; what < counts.length; what++) {
            due("new: count(" + what + ")", x.count(what), counts[what]);
        }
        due("new: seat(0)", x.seat(0), 0);
        due("new: seat(1)", x.seat(1), -1);
        due("new: back(0)", x.back(0), -11);
        due("new: back(1)", x.back(1), -11);
        due("new: why()", x.why(), 0);
        due("new: again()", x.again(), -1);
        due("new: check()", x.check(), -1);
        due("new: strike()", x.strike(), 0);
        due("new: majority(6, 1)", x.majority(6, 1), 2);
        due("NONE", MotionFloor.NONE, -1);
        for (int p = 0; p < 8; p++) {
            Due.dueDesk(x, p, 0, 0, 0, 0, 0, 0, -1);
        }
    }

    private static void seats() {
        MotionFloor x = Due.sitting(3);
        x.quorum(2);
        x.limit(4);
        x.majority(1, 3);
        x.tell(1, 0, 0, 0, 0, 1);
        Due.bring(x, 1, 7);
        Due.carry(x);
        Due.bring(x, 1, 8);
        x.draft(2);
        Due.layAmend(x, 3, 2, 0, 1, 9);
        x.draft(4);
        x.floor(1);
        x.image(1);
        x.there(99);
        due("seats(0)", x.seats(0), -9);
        due("seats(-1)", x.seats(-1), -9);
        due("seats(201)", x.seats(201), -9);
        due("seats(MIN)", x.seats(LEAST), -9);
        due("seats(MAX)", x.seats(MOST), -9);
        due("seats(0) is no act", x.why(), 9);
        due("seats(0) leaves all", x.count(8) > 0 ? 1 : 0, 1);
        due("seats(200)", x.seats(200), 200);
        due("why() of a new assembly", x.why(), 0);
        int[] counts = {200, 0, -1, 0, 0, -1, 0, 0, 0, 0, -1, 0, 1};
        for (int what = 0; what < counts.length; what++) {
            due("seats: count(" + what + ")", x.count(what), counts[what]);
        }
        due("seat(199)", x.seat(199), 0);
        due("seat(0)", x.seat(0), 0);
        due("text of the ADOPTED one", x.text(-1, 0), -1);
        due("text of THE DRAFT", x.text(9, 0), -1);
        due("result", x.result(0, 0), -1);
        due("journal", x.journal(0, 0), -1);
        Due.dueDesk(x, 3, 0, 0, 0, 0, 0, 0);
        due("majority is 1 again", x.majority(1, 2), 1);
        due("the image stays", x.back(1) > 0 ? 1 : 0, 1);
        due("with its SEATS", x.count(0), 3);
        due("seats(1)", x.seats(1), 1);
        due("there(1) of one", x.there(1), -9);
        due("check() in as many SEATS", x.check(), -1);
    }

    private static void there() {
        MotionFloor x = new MotionFloor();
        x.seats(3);
        due("there(2)", x.there(2), 1);
        due("there(0)", x.there(0), 2);
        due("there(2) again", x.there(2), -11);
        due("there(3)", x.there(3), -9);
        due("there(-1)", x.there(-1), -9);
        due("there(MIN)", x.there(LEAST), -9);
        due("there(MAX)", x.there(MOST), -9);
        due("there(200)", x.there(200), -9);
        due("seat(0)", x.seat(0), 1);
        due("seat(1)", x.seat(1), 0);
        due("seat(2)", x.seat(2), 1);
        due("seat(3)", x.seat(3), -1);
        due("seat(-1)", x.seat(-1), -1);
        due("seat(MAX)", x.seat(MOST), -1);
        due("count(1)", x.count(1), 2);
        due("count(8)", x.count(8), 2);
    }

    private static void gone() {
        MotionFloor x = Due.sitting(4);
        due("gone(4)", x.gone(4), -9);
        due("gone(-1)", x.gone(-1), -9);
        due("gone(3)", x.gone(3), 3);
        due("gone(3) again", x.gone(3), -8);
        due("why()", x.why(), 8);
        x.floor(1);
        due("gone(2)", x.gone(2), 2);
        due("another keeps THE FLOOR", x.count(5), 1);
        due("gone(1)", x.gone(1), 1);
        due("nobody has THE FLOOR", x.count(5), -1);
        due("gone(0)", x.gone(0), 0);
        due("the CHAIR stays the CHAIR", x.count(2), 0);
        due("told() without it", x.told(), -8);
        due("seat(0)", x.seat(0), 0);
    }

    private static void quorum() {
        MotionFloor x = Due.sitting(4);
        due("quorum(200)", x.quorum(200), 200);
        due("quorum(201)", x.quorum(201), -9);
        due("quorum(-1)", x.quorum(-1), -9);
        due("quorum(4)", x.quorum(4), 4);
        due("count(3)", x.count(3), 4);
        Due.bring(x, 1, 5);
        due("quorum(0), PENDING", x.quorum(0), -11);
        due("quorum(201), PENDING", x.quorum(201), -9);
        x.gone(3);
        due("told() below the QUORUM", x.told(), 0);
        due("it is PENDING still", x.count(6), 1);
        due("no RESULT", x.count(9), 0);
        due("why()", x.why(), 0);
        Due.dueEntry(x, x.count(8) - 1, 21, 0, 0, 0, 0, 0);
        x.there(3);
        due("told() with just the QUORUM", x.told(), 2);
        due("quorum(0)", x.quorum(0), 0);
    }

    private static void chair() {
        MotionFloor x = new MotionFloor();
        x.seats(3);
        due("chair(0), not THERE", x.chair(0), -8);
        due("chair(3)", x.chair(3), -9);
        due("chair(-1)", x.chair(-1), -9);
        x.there(0);
        x.there(1);
        due("chair(0)", x.chair(0), 0);
        due("count(2)", x.count(2), 0);
        due("floor(1)", x.floor(1), 0);
        due("chair(0) again", x.chair(0), 0);
        due("THE FLOOR stays", x.count(5), 1);
        due("chair(1)", x.chair(1), 1);
        due("the CHAIR loses THE FLOOR", x.count(5), -1);
        due("count(2)", x.count(2), 1);
        due("floor(0)", x.floor(0), 0);
    }

    private static void majority() {
        MotionFloor x = Due.sitting(3);
        due("majority(0, 1)", x.majority(0, 1), -9);
        due("majority(9, 1)", x.majority(9, 1), -9);
        due("majority(-1, 1)", x.majority(-1, 1), -9);
        due("majority(MAX, 1)", x.majority(MOST, 1), -9);
        due("majority(1, 0)", x.majority(1, 0), -9);
        due("majority(1, 4)", x.majority(1, 4), -9);
        for (int kind = 1; kind <= 8; kind++) {
            int first = kind == 6 ? 2 : 1;
            due("majority(" + kind + ", 3)", x.majority(kind, 3), first);
            due("majority(" + kind + ", 2)", x.majority(kind, 2), 3);
            due("majority(" + kind + ", 1)", x.majority(kind, 1), 2);
        }
        Due.bring(x, 1, 5);
        due("majority(2, 2), PENDING", x.majority(2, 2), -11);
        due("majority(9, 2), PENDING", x.majority(9, 2), -9);
    }

    /** The result of a MAIN by so many yes and no of 10 SEATS. */
    private static void dueMajority(int sort, int yes, int no, int result) {
        MotionFloor x = Due.sitting(10);
        x.majority(1, sort);
        Due.bring(x, 1, 5);
        for (int s = 0; s < yes; s++) {
            x.vote(s, 1);
        }
        for (int s = yes; s < yes + no; s++) {
            x.vote(s, 0);
        }
        due("told() by " + sort + ": " + yes + " to " + no, x.told(), result);
        Due.dueResult(x, 0, x.count(8) - 1, 1, result, yes, no);
    }

    private static void majoritySorts() {
        dueMajority(1, 0, 0, 2);
        dueMajority(1, 1, 0, 1);
        dueMajority(1, 2, 2, 2);
        dueMajority(1, 3, 2, 1);
        dueMajority(1, 2, 3, 2);
        dueMajority(2, 0, 0, 2);
        dueMajority(2, 1, 0, 1);
        dueMajority(2, 1, 1, 2);
        dueMajority(2, 2, 1, 1);
        dueMajority(2, 3, 2, 2);
        dueMajority(2, 4, 2, 1);
        dueMajority(2, 6, 3, 1);
        dueMajority(2, 6, 4, 2);
        dueMajority(3, 5, 0, 2);
        dueMajority(3, 6, 0, 1);
        dueMajority(3, 6, 4, 1);
        dueMajority(3, 5, 1, 2);
        MotionFloor x = Due.sitting(3);
        Due.bring(x, 1, 5);
        Due.bring(x, 6);
        x.vote(0, 1);
        x.vote(1, 0);
        x.vote(2, 1);
        due("CLOSE by two thirds", x.told(), 1);
    }

    private static void limit() {
        MotionFloor x = Due.sitting(3);
        due("limit(100)", x.limit(100), -9);
        due("limit(-1)", x.limit(-1), -9);
        due("limit(99)", x.limit(99), 99);
        due("limit(0)", x.limit(0), 0);
        due("limit(2)", x.limit(2), 2);
        due("count(4)", x.count(4), 2);
        x.floor(1);
        x.cede();
        x.floor(1);
        x.cede();
        due("no LIMIT with nothing PENDING", x.floor(1), 0);
        x.cede();
        Due.bring(x, 1, 5);
        due("limit(3), PENDING", x.limit(3), -11);
        due("limit(100), PENDING", x.limit(100), -9);
        due("floor(1)", x.floor(1), 1);
        x.cede();
        due("floor(2)", x.floor(2), 2);
        x.cede();
        due("floor(1) by LIMIT", x.floor(1), -6);
        due("floor(0), the CHAIR", x.floor(0), -2);
        due("pending(0, 6)", x.pending(0, 6), 2);
    }

    private static void floor() {
        MotionFloor x = Due.sitting(4);
        x.gone(3);
        due("floor(4)", x.floor(4), -9);
        due("floor(-1)", x.floor(-1), -9);
        due("floor(3)", x.floor(3), -8);
        due("floor(0), the CHAIR", x.floor(0), -2);
        due("floor(1)", x.floor(1), 0);
        due("floor(1), it has it", x.floor(1), -2);
        due("floor(2), another has it", x.floor(2), -2);
        due("floor(3), not THERE", x.floor(3), -8);
        due("count(5)", x.count(5), 1);
        Due.write(x, 1, 5);
        x.move(1);
        due("nobody has THE FLOOR behind move()", x.count(5), -1);
        due("floor(2)", x.floor(2), 1);
        x.cede();
        due("floor(1)", x.floor(1), 2);
        due("pending(0, 6)", x.pending(0, 6), 2);
        x.cede();
        x.rule();
        due("floor(1) on a RULING", x.floor(1), 1);
        due("pending(0, 6)", x.pending(0, 6), 2);
        due("pending(1, 6)", x.pending(1, 6), 1);
        x.appeal(2);
        x.vote(1, 0);
        due("told()", x.told(), 5);
        due("nobody has THE FLOOR behind a RESULT", x.count(5), -1);
    }

    private static void floorOfClosed() {
        MotionFloor x = Due.sitting(4);
        Due.bring(x, 1, 5);
        Due.bringAmend(x, 2, 0, 1, 6);
        Due.bring(x, 6);
        due("floor(3) on a CLOSE", x.floor(3), -6);
        due("floor(0) on a CLOSE", x.floor(0), -2);
        Due.carry(x);
        due("the AMEND is CLOSED", x.pending(1, 8), 1);
        due("the MAIN is not", x.pending(0, 8), 0);
        due("floor(3) on a CLOSED one", x.floor(3), -6);
        Due.carry(x);
        due("floor(3) on the MAIN", x.floor(3), 2);
    }

    private static void cede() {
        MotionFloor x = Due.sitting(3);
        due("cede()", x.cede(), -2);
        x.floor(2);
        due("cede()", x.cede(), 2);
        due("count(5)", x.count(5), -1);
        due("cede() again", x.cede(), -2);
        x.chair(2);
        x.floor(0);
        due("cede() of SEAT 0", x.cede(), 0);
    }

    private static void debate() {
        MotionFloor x = Due.sitting(4);
        due("debate(1), nothing PENDING", x.debate(1), -7);
        x.floor(1);
        due("debate(1), nothing PENDING", x.debate(1), -7);
        Due.write(x, 1, 5);
        x.move(1);
        due("debate(-1), nobody has THE FLOOR", x.debate(-1), -2);
        due("debate(2)", x.debate(2), -2);
        x.floor(1);
        due("debate(2), another has it", x.debate(2), -2);
        due("debate(1), not seconded", x.debate(1), -3);
        x.second(2);
        due("debate(1)", x.debate(1), 1);
        due("debate(1)", x.debate(1), 2);
        due("pending(0, 7)", x.pending(0, 7), 2);
        due("it keeps THE FLOOR", x.count(5), 1);
        x.rule();
        due("debate(1) on a RULING", x.debate(1), -3);
        x.appeal(1);
        due("debate(1) on an appealed one", x.debate(1), 1);
        x.vote(1, 0);
        x.told();
        for (int kind = 7; kind <= 8; kind++) {
            x.draft(kind);
            x.floor(1);
            x.move(1);
            x.floor(3);
            due("debate(3), not seconded, " + kind, x.debate(3), -3);
            x.second(2);
            due("debate(3) on " + kind, x.debate(3), -6);
            x.cede();
        }
        for (int kind = 4; kind <= 5; kind++) {
            x.adjourn();
            Due.bring(x, 1, 5);
            Due.bring(x, kind);
            x.floor(3);
            due("debate(3) on " + kind, x.debate(3), 1);
        }
    }

    private static void count() {
        MotionFloor x = Due.sitting(5);
        x.gone(4);
        x.quorum(2);
        x.limit(9);
        Due.bring(x, 1, 5, 6);
        Due.carry(x);
        Due.bring(x, 1, 7);
        Due.bringAmend(x, 2, 0, 1, 8);
        x.draft(3);
        x.floor(3);
        x.tell(1, 2, 3, 4, 5, 6);
        x.tell(1, 2, 3, 4, 5, 6);
        int[] counts = {5, 4, 0, 2, 9, 3, 2, 3, x.count(8), 1, 2, 1, 2, -1};
        for (int what = 0; what < counts.length; what++) {
            due("count(" + what + ")", x.count(what), counts[what]);
        }
        due("count(8)", x.count(8), 31);
        due("count(-1)", x.count(-1), -1);
        due("count(MAX)", x.count(MOST), -1);
        due("count(MIN)", x.count(LEAST), -1);
    }
}
