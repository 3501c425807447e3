/** Promises 12 .. 16, 30 and 31: THE DRAFT and THE DESK. */
public final class PaperTest {
    private static final int LEAST = Integer.MIN_VALUE;
    private static final int MOST = Integer.MAX_VALUE;

    public static void main(String[] args) {
        draft();
        span();
        word();
        lay();
        layOfLastPlace();
        take();
        following();
        followingInsertion();
        followingOfSecond();
        followingDraft();
        outOfOrderGoesOn();
        desk();
        Due.end();
    }

    private static void due(String call, int got, int want) {
        Due.due(call, got, want);
    }

    private static void draft() {
        MotionFloor x = new MotionFloor();
        due("draft(0)", x.draft(0), -9);
        due("draft(9)", x.draft(9), -9);
        due("draft(-1)", x.draft(-1), -9);
        due("draft(MAX)", x.draft(MOST), -9);
        due("count(7)", x.count(7), 0);
        for (int kind = 1; kind <= 8; kind++) {
            due("draft(" + kind + ")", x.draft(kind), kind);
            due("count(7)", x.count(7), kind);
        }
        Due.write(x, 1, 5, 6);
        due("draft(1) anew", x.draft(1), 1);
        due("it has no words", x.text(9, 0), -1);
        x = Due.sitting(3);
        Due.bring(x, 1, 1, 2, 3);
        x.draft(2);
        x.span(1, 2);
        x.lay(0);
        x.take(0);
        due("span of a LAID one", x.span(0, 1), -11);
        due("draft(9) leaves it", x.draft(9), -9);
        due("it is there still", x.count(7), 2);
        x.draft(2);
        due("it is not LAID", x.word(7, 0, 0, 0), 1);
        x.lay(0);
        Due.dueDesk(x, 0, 2, 2, 1, 0, 0, 0);
    }

    private static void span() {
        MotionFloor x = Due.sitting(3);
        due("span(0, 0), no DRAFT", x.span(0, 0), -11);
        due("span(-1, 0), no DRAFT", x.span(-1, 0), -11);
        for (int kind = 1; kind <= 8; kind++) {
            x.draft(kind);
            boolean can = kind == 2 || kind == 3;
            due("span(0, 1) of " + kind, x.span(0, 1), can ? 1 : -11);
            due("span(1, 0) of " + kind, x.span(1, 0), can ? -9 : -11);
        }
        x.draft(2);
        due("span(0, 400)", x.span(0, 400), 400);
        due("span(400, 400)", x.span(400, 400), 0);
        due("span(0, 401)", x.span(0, 401), -9);
        due("span(401, 401)", x.span(401, 401), -9);
        due("span(-1, 3)", x.span(-1, 3), -9);
        due("span(3, 2)", x.span(3, 2), -9);
        due("span(MIN, MAX)", x.span(LEAST, MOST), -9);
        due("span(MAX, MIN)", x.span(MOST, LEAST), -9);
        due("span(1, 3)", x.span(1, 3), 2);
        due("text(9, 0)", x.text(9, 0), -1);
        Due.bring(x, 1, 1, 2, 3);
        x.draft(2);
        x.span(1, 3);
        x.lay(7);
        Due.dueDesk(x, 7, 2, 2, 0, 1, 3, 0);
        x.take(7);
        due("span(0, 1) of a LAID one", x.span(0, 1), -11);
    }

    private static void word() {
        MotionFloor x = Due.sitting(3);
        due("word, no DRAFT", x.word(1, 2, 3, 4), -11);
        for (int kind = 1; kind <= 8; kind++) {
            x.draft(kind);
            due("word(7, 0, 0, 0) of " + kind, x.word(7, 0, 0, 0), kind <= 5 ? 1 : -11);
            due("word(0, 0, 0, 0) of " + kind, x.word(0, 0, 0, 0), kind <= 5 ? -9 : -11);
        }
        x.draft(1);
        due("word(1, 2, 3, 4)", x.word(1, 2, 3, 4), 4);
        due("word(5, 0, 6, 0)", x.word(5, 0, 6, 0), 6);
        due("word(7, 0, 0, 8)", x.word(7, 0, 0, 8), 8);
        due("word(30000, 0, 0, 0)", x.word(30000, 0, 0, 0), 9);
        due("word(30001, 0, 0, 0)", x.word(30001, 0, 0, 0), -9);
        due("word(-1, 0, 0, 0)", x.word(-1, 0, 0, 0), -9);
        due("word(0, 1, 1, 1)", x.word(0, 1, 1, 1), -9);
        due("word(1, -1, 0, 0)", x.word(1, -1, 0, 0), -9);
        due("word(1, 0, 30001, 0)", x.word(1, 0, 30001, 0), -9);
        due("word(1, 0, 0, MIN)", x.word(1, 0, 0, LEAST), -9);
        due("word(MAX, 0, 0, 0)", x.word(MOST, 0, 0, 0), -9);
        due("word(1, 30000, 1, 30000)", x.word(1, 30000, 1, 30000), 13);
        Due.dueText(x, 9, 1, 2, 3, 4, 5, 6, 7, 8, 30000, 1, 30000, 1, 30000);
        due("text(9, MAX)", x.text(9, MOST), -1);
        due("text(9, MIN)", x.text(9, LEAST), -1);
        x.draft(1);
        Due.fill(x, 398, 1);
        due("word of 4 behind 398", x.word(1, 2, 3, 4), -10);
        due("word of 3 behind 398", x.word(1, 0, 2, 3), -10);
        due("word of 2 behind 398", x.word(9, 0, 0, 8), 400);
        due("word of 1 behind 400", x.word(1, 0, 0, 0), -10);
        due("a wrong word behind 400", x.word(0, 0, 0, 0), -9);
        due("text(9, 397)", x.text(9, 397), 398);
        due("text(9, 399)", x.text(9, 399), 8);
        due("text(9, 400)", x.text(9, 400), -1);
        x.draft(1);
        Due.fill(x, 397, 1);
        due("word of 4 behind 397", x.word(1, 2, 3, 4), -10);
        due("word of 3 behind 397", x.word(1, 2, 3, 0), 400);
        x.draft(1);
        Due.fill(x, 399, 1);
        due("word of 2 behind 399", x.word(1, 0, 0, 1), -10);
        due("word of 1 behind 399", x.word(1, 0, 0, 0), 400);
        x.lay(0);
        x.take(0);
        due("word of a LAID one", x.word(1, 0, 0, 0), -11);
    }

    private static void lay() {
        MotionFloor x = Due.sitting(3);
        due("lay(0), no DRAFT", x.lay(0), -11);
        due("lay(8), no DRAFT", x.lay(8), -9);
        due("lay(-1)", x.lay(-1), -9);
        for (int kind = 1; kind <= 8; kind++) {
            x.draft(kind);
            due("lay of " + kind, x.lay(kind - 1), kind == 2 || kind == 3 ? -1 : kind - 1);
        }
        x.draft(1);
        due("lay(0), taken", x.lay(0), -11);
        due("lay(1)", x.lay(1), 1);
        due("count(7)", x.count(7), 0);
        due("count(6)", x.count(6), 0);
        x = Due.sitting(3);
        Due.bring(x, 1, 1, 2, 3);
        x.draft(3);
        due("a SECOND of a MAIN", x.lay(0), -1);
        x.draft(2);
        x.span(2, 4);
        due("a SPAN beyond", x.lay(0), -5);
        x.span(3, 3);
        due("a SPAN at the end", x.lay(0), 0);
        Due.bringAmend(x, 2, 0, 1, 7);
        x.draft(2);
        due("an AMEND of an AMEND", x.lay(1), -1);
        x.draft(3);
        x.span(0, 2);
        due("a SECOND beyond", x.lay(1), -5);
        x.span(0, 1);
        due("a SECOND", x.lay(1), 1);
        Due.bringAmend(x, 3, 0, 0, 6);
        x.draft(3);
        due("a SECOND of a SECOND", x.lay(2), -1);
        x.draft(8);
        x.lay(7);
        x.take(0);
        due("one that was LAID, where it is no more about the TOP", x.lay(2), 2);
        Due.carry(x);
        Due.lose(x);
        x.take(1);
        due("one that was LAID, with its SUBJECT gone", x.lay(3), 3);
        Due.bring(x, 4, 8);
        x.draft(2);
        x.span(0, 1);
        due("an AMEND of a COMMIT", x.lay(4), 4);
        Due.bring(x, 5, 9, 9);
        x.draft(2);
        x.span(0, 2);
        due("an AMEND of a POSTPONE", x.lay(5), 5);
        Due.bring(x, 6);
        x.draft(2);
        due("an AMEND of a CLOSE", x.lay(6), -1);
        x.rule();
        due("an AMEND of a RULING", x.lay(6), -1);
    }

    private static void layOfLastPlace() {
        int[] kinds = {4, 5, 7};
        for (int kind : kinds) {
            MotionFloor x = Due.sitting(3);
            for (int p = 0; p < 6; p++) {
                x.draft(8);
                x.lay(p);
            }
            Due.bring(x, 1, 1);
            Due.bring(x, kind);
            x.draft(8);
            due("lay(7) of two free ones", x.lay(7), 7);
            x.draft(8);
            due("lay(6) of the last one, " + kind, x.lay(6), -10);
            due("lay(7)", x.lay(7), -11);
            Due.bring(x, 8);
            x.take(0);
            due("lay(6) of two free ones, LAID before", x.lay(6), 6);
            x.take(1);
            x.lay(0);
            x.take(2);
            x.lay(1);
            due("order of that", x.order(1), 0);
            x.take(3);
            due("lay(2)", x.lay(2), 2);
            due("told()", x.told(), 2);
            Due.carry(x);
            due("it lies on the first free PLACE", x.desk(3, 0), kind == 4 ? 1 : kind == 5 ? 2 : 3);
        }
        MotionFloor x = Due.sitting(3);
        for (int p = 0; p < 8; p++) {
            x.draft(8);
            due("all PLACES can be taken", x.lay(p), p);
        }
        Due.bring(x, 1, 1);
        for (int kind : kinds) {
            x.draft(kind);
            x.floor(1);
            due("move without a free PLACE, " + kind, x.move(1), -10);
            x.cede();
        }
        Due.bring(x, 6);
        due("withdraw(1)", x.withdraw(1), 1);
        due("take(4)", x.take(4), 8);
        Due.bring(x, 4);
        Due.carry(x);
        Due.dueDesk(x, 4, 1, 1, 1, 0, 0, 0);
    }

    private static void take() {
        MotionFloor x = Due.sitting(4);
        due("take(0), nothing there", x.take(0), -11);
        due("take(8)", x.take(8), -9);
        due("take(-1)", x.take(-1), -9);
        Due.write(x, 1, 5, 6);
        due("take(0) with a DRAFT", x.take(0), -11);
        due("take(8) with a DRAFT", x.take(8), -9);
        x.lay(3);
        due("take(3)", x.take(3), 1);
        Due.dueDesk(x, 3, 0, 0, 0, 0, 0, 0);
        Due.dueText(x, 9, 5, 6);
        due("word() of a LAID one", x.word(1, 0, 0, 0), -11);
        Due.bring(x);
        Due.bring(x, 4, 9);
        Due.carry(x);
        Due.dueDesk(x, 0, 1, 1, 2, 0, 0, 0);
        due("lying(0, 0)", x.lying(0, 0), 5);
        due("take(0) of a LETTER", x.take(0), 1);
        due("count(7)", x.count(7), 1);
        due("a LETTER's words may grow", x.word(7, 0, 0, 0), 3);
        Due.dueText(x, 9, 5, 6, 7);
        x.floor(3);
        due("move(3)", x.move(3), 1);
        Due.duePending(x, 0, 1, 3, -1, 3, 0, 0, 0, 0, 0, 0);
        x.second(1);
        Due.bring(x, 7);
        Due.carry(x);
        Due.dueDesk(x, 0, 3, 1, 3, 0, 0, 0);
        due("take(0) of a TABLED row", x.take(0), 7);
        due("count(7)", x.count(7), 7);
        due("text(9, 0)", x.text(9, 0), -1);
        due("word()", x.word(1, 0, 0, 0), -11);
        due("span()", x.span(0, 0), -11);
        due("lay(5) of a TABLED row", x.lay(5), 5);
        Due.dueDesk(x, 5, 3, 1, 3, 0, 0, 0);
        x.take(5);
        due("draft(1) in place of it", x.draft(1), 1);
        due("count(7)", x.count(7), 1);
    }

    /** SPANS before, behind and across the one of a carried AMEND. */
    private static void following() {
        MotionFloor x = Due.sitting(3);
        Due.bring(x, 1, 1, 2, 3, 4, 5, 6, 7, 8);
        Due.layAmend(x, 0, 2, 0, 3, 50);
        Due.layAmend(x, 1, 2, 5, 8, 51);
        Due.layAmend(x, 2, 2, 2, 4, 52);
        Due.layAmend(x, 3, 2, 4, 6, 53);
        Due.layAmend(x, 4, 2, 3, 5, 54);
        Due.layAmend(x, 5, 2, 4, 4, 55);
        Due.layAmend(x, 6, 2, 3, 3, 56);
        Due.layAmend(x, 7, 2, 5, 5, 57);
        Due.bringAmend(x, 2, 3, 5, 60, 61, 62, 63, 64);
        Due.carry(x);
        Due.dueText(x, 0, 1, 2, 3, 60, 61, 62, 63, 64, 6, 7, 8);
        Due.dueDesk(x, 0, 2, 2, 1, 0, 3, 0);
        Due.dueDesk(x, 1, 2, 2, 1, 8, 11, 0);
        Due.dueDesk(x, 2, 2, 2, 1, 2, 4, 1);
        Due.dueDesk(x, 3, 2, 2, 1, 4, 6, 1);
        Due.dueDesk(x, 4, 2, 2, 1, 3, 5, 1);
        Due.dueDesk(x, 5, 2, 2, 1, 4, 4, 1);
        Due.dueDesk(x, 6, 2, 2, 1, 3, 3, 0);
        Due.dueDesk(x, 7, 2, 2, 1, 8, 8, 0);
        x.take(2);
        x.floor(1);
        due("move of one OUT OF ORDER", x.move(1), -5);
        x.lay(2);
        x.take(1);
        due("move of one that went on", x.move(1), 2);
        Due.duePending(x, 1, 2, 1, -1, 1, 8, 11, 0, 0, 0, 0);
        x.second(2);
        Due.carry(x);
        Due.dueText(x, 0, 1, 2, 3, 60, 61, 62, 63, 64, 51);
        Due.lose(x);
        x.take(0);
        due("its SUBJECT is gone, it stays", x.lay(1), 1);
        Due.dueDesk(x, 1, 2, 2, 1, 0, 3, 0);
    }

    private static void followingInsertion() {
        MotionFloor x = Due.sitting(3);
        Due.bring(x, 1, 1, 2, 3, 4);
        Due.layAmend(x, 0, 2, 0, 2, 50);
        Due.layAmend(x, 1, 2, 2, 4, 51);
        Due.layAmend(x, 2, 2, 2, 2, 52);
        Due.layAmend(x, 3, 2, 1, 3, 53);
        Due.bringAmend(x, 2, 2, 2, 60, 61);
        Due.carry(x);
        Due.dueText(x, 0, 1, 2, 60, 61, 3, 4);
        Due.dueDesk(x, 0, 2, 2, 1, 0, 2, 0);
        Due.dueDesk(x, 1, 2, 2, 1, 4, 6, 0);
        Due.dueDesk(x, 2, 2, 2, 1, 2, 2, 0);
        Due.dueDesk(x, 3, 2, 2, 1, 1, 3, 1);
        Due.bringAmend(x, 2, 0, 4);
        Due.carry(x);
        Due.dueText(x, 0, 3, 4);
        Due.dueDesk(x, 1, 2, 2, 1, 0, 2, 0);
        Due.dueDesk(x, 0, 2, 2, 1, 0, 2, 1);
    }

    /** The AMEND's own TEXT changes, not the MAIN's. */
    private static void followingOfSecond() {
        MotionFloor x = Due.sitting(3);
        Due.bring(x, 1, 1, 2, 3, 4);
        Due.layAmend(x, 0, 2, 2, 4, 50);
        Due.bringAmend(x, 2, 0, 1, 10, 11, 12);
        Due.layAmend(x, 1, 3, 2, 3, 51);
        Due.layAmend(x, 2, 3, 0, 2, 52);
        Due.bringAmend(x, 3, 0, 1, 20, 21);
        Due.carry(x);
        Due.dueText(x, 1, 20, 21, 11, 12);
        Due.dueText(x, 0, 1, 2, 3, 4);
        Due.dueDesk(x, 0, 2, 2, 1, 2, 4, 0);
        Due.dueDesk(x, 1, 2, 3, 1, 3, 4, 0);
        Due.dueDesk(x, 2, 2, 3, 1, 0, 2, 1);
        Due.carry(x);
        Due.dueText(x, 0, 20, 21, 11, 12, 2, 3, 4);
        Due.dueDesk(x, 0, 2, 2, 1, 5, 7, 0);
        Due.dueDesk(x, 1, 2, 3, 1, 3, 4, 0);
    }

    /** One of THE DRAFT that was LAID goes on, too; one that was not has no SUBJECT. */
    private static void followingDraft() {
        MotionFloor x = Due.sitting(3);
        Due.bring(x, 1, 1, 2, 3, 4);
        Due.layAmend(x, 0, 2, 2, 3, 50);
        Due.bringAmend(x, 2, 0, 1, 10, 11, 12);
        x.take(0);
        Due.carry(x);
        due("lay(4)", x.lay(4), 4);
        Due.dueDesk(x, 4, 2, 2, 1, 4, 5, 0);
        Due.bringAmend(x, 2, 0, 1);
        Due.write(x, 2, 7);
        x.span(2, 3);
        Due.carry(x);
        due("lay(5)", x.lay(5), 5);
        Due.dueDesk(x, 5, 2, 2, 1, 2, 3, 0);
        Due.dueDesk(x, 4, 2, 2, 1, 3, 4, 0);
    }

    /** Each one with that SUBJECT goes on, one OUT OF ORDER as well; it stays OUT OF ORDER. */
    private static void outOfOrderGoesOn() {
        MotionFloor x = Due.sitting(3);
        Due.bring(x, 1, 1, 2, 3, 4, 5);
        Due.layAmend(x, 0, 2, 2, 4, 50);
        Due.bringAmend(x, 2, 3, 4, 60);
        Due.carry(x);
        Due.dueDesk(x, 0, 2, 2, 1, 2, 4, 1);
        Due.bringAmend(x, 2, 0, 1, 10, 11);
        Due.carry(x);
        Due.dueDesk(x, 0, 2, 2, 1, 3, 5, 1);
    }

    private static void desk() {
        MotionFloor x = Due.sitting(3);
        due("desk(-1, 0)", x.desk(-1, 0), -1);
        due("desk(8, 0)", x.desk(8, 0), -1);
        due("desk(0, -1)", x.desk(0, -1), -1);
        due("desk(0, 6)", x.desk(0, 6), -1);
        due("desk(MIN, MAX)", x.desk(LEAST, MOST), -1);
        due("lying(0, 0)", x.lying(0, 0), -1);
        due("lying(8, 0)", x.lying(8, 0), -1);
        due("lying(-1, 0)", x.lying(-1, 0), -1);
        x.draft(7);
        x.lay(0);
        Due.dueDesk(x, 0, 2, 7, 0, 0, 0, 0, -1);
        Due.bring(x, 1, 5, 6);
        Due.bringAmend(x, 2, 1, 2, 8);
        Due.layAmend(x, 1, 3, 0, 1, 9, 10);
        Due.dueDesk(x, 1, 2, 3, 2, 0, 1, 0);
        due("lying(1, 1)", x.lying(1, 1), 10);
        due("lying(1, 2)", x.lying(1, 2), -1);
        due("lying(1, -1)", x.lying(1, -1), -1);
        Due.bring(x, 7);
        Due.carry(x);
        Due.dueDesk(x, 2, 3, 2, 2, 0, 0, 0, -1);
        due("lying(2, 0)", x.lying(2, 0), 5);
        due("lying(2, 1)", x.lying(2, 1), 6);
        due("lying(2, 2)", x.lying(2, 2), -1);
        Due.write(x, 5, 1, 2, 3);
        x.lay(7);
        Due.dueDesk(x, 7, 2, 5, 3, 0, 0, 0);
        due("desk is no act", x.count(8), x.count(8));
    }
}
