/** The edges that the document names in II, ACTS 13 to 15: a method for each sentence or part of one. */
public final class EdgeDeskTest {
    private static final int LEAST = Edge.LEAST;
    private static final int MOST = Edge.MOST;

    public static void main(String[] args) {
        layAndTake();
        moveRefused();
        moveDone();
        Due.end();
    }

    private static void layAndTake() {
        layNoSuchPlace();
        layNoDraft();
        layOnSomething();
        layNotAboutTop();
        layBeyond();
        layBeforeIsEnough();
        layLastPlace();
        layLastPlaceOfOthers();
        layLastPlaceByKind();
        layNoDraftThen();
        layFirstReason();
        takeNoSuchPlace();
        takeWithDraft();
        takeNothing();
        takeLetter();
        takeKinds();
        takeFirstReason();
    }

    private static void moveRefused() {
        moveNoDraft();
        moveMainOnSomething();
        moveRowOnSomething();
        moveAmendRank();
        moveSecondRank();
        moveOthersOnNothing();
        moveOthersRank();
        moveWithoutFloor();
        moveOnNotSeconded();
        moveBelowQuorum();
        moveOutOfOrder();
        moveSubjectNotTop();
        moveBeyond();
        moveOnNine();
        moveTextTooLong();
        moveTextTooLongBySecond();
        moveWithoutPlace();
        moveFirstReason();
    }

    private static void moveDone() {
        moveNobodyHasFloor();
        moveMover();
        movePostponedSeconder();
        moveRowAsItWas();
        moveRowOfEight();
        moveHowMany();
    }

    // 13 lay(p)

    /** "9 no such PLACE": they are 0 .. 7. */
    private static void layNoSuchPlace() {
        MotionFloor x = new MotionFloor();
        x.draft(1);
        Edge.refused(x, "lay(8)", () -> x.lay(8), Edge.RANGE);
        Edge.refused(x, "lay(-1)", () -> x.lay(-1), Edge.RANGE);
        Edge.refused(x, "lay(MIN)", () -> x.lay(LEAST), Edge.RANGE);
        Edge.refused(x, "lay(MAX)", () -> x.lay(MOST), Edge.RANGE);
        Edge.done(x, "lay(0)", () -> x.lay(0), 0);
        x.draft(1);
        Edge.done(x, "lay(7)", () -> x.lay(7), 7);
    }

    /** "11 no DRAFT." */
    private static void layNoDraft() {
        MotionFloor x = new MotionFloor();
        Edge.refused(x, "lay(0)", () -> x.lay(0), Edge.STATE);
    }

    /** "Or the PLACE has something": a LETTER, a motion, a TABLED row. */
    private static void layOnSomething() {
        int[] kinds = {4, 5, 7};
        for (int kind : kinds) {
            MotionFloor x = Due.sitting(3);
            Due.bring(x, 1, 5);
            Due.bring(x, kind);
            Due.carry(x);
            Due.due("desk(0, 0)", x.desk(0, 0), kind == 4 ? 1 : kind == 5 ? 2 : 3);
            x.draft(1);
            Edge.refused(x, "lay(0)", () -> x.lay(0), Edge.STATE);
            Edge.done(x, "lay(1)", () -> x.lay(1), 1);
        }
    }

    /** "1 an AMEND, SECOND that can't be about the TOP." */
    private static void layNotAboutTop() {
        MotionFloor x = Due.sitting(4);
        dueAbout(x, 0, 0);
        Due.bring(x, 1, 5);
        dueAbout(x, 1, 0);
        Due.bring(x, 2, 5);
        dueAbout(x, 0, 1);
        Due.bring(x, 3, 5);
        dueAbout(x, 0, 0);
        Due.bring(x, 4, 5);
        dueAbout(x, 1, 0);
        Due.bring(x, 5, 5);
        dueAbout(x, 1, 0);
        Due.bring(x, 7);
        dueAbout(x, 0, 0);
        Due.bring(x, 8);
        dueAbout(x, 0, 0);
        x.rule();
        dueAbout(x, 0, 0);
        MotionFloor y = Due.sitting(4);
        Due.bring(y, 1, 5);
        Due.bring(y, 6);
        dueAbout(y, 0, 0);
    }

    /** Whether an AMEND, and a SECOND, can be laid, and then the others; THE DESK is as it was behind it. */
    private static void dueAbout(MotionFloor x, int amend, int second) {
        for (int kind = 1; kind <= 8; kind++) {
            x.draft(kind);
            if (kind == 2 && amend == 0 || kind == 3 && second == 0) {
                Edge.refused(x, "lay(0) of " + kind, () -> x.lay(0), Edge.RANK);
            } else {
                Edge.done(x, "lay(0) of " + kind, () -> x.lay(0), 0);
                x.take(0);
            }
        }
    }

    /** "5 its SPAN goes beyond the TOP's TEXT." To its end is not beyond; of a TEXT without words, too. */
    private static void layBeyond() {
        MotionFloor x = Edge.mainOf(3);
        x.draft(2);
        x.span(0, 4);
        Edge.refused(x, "0 .. 4 of 3 words", () -> x.lay(0), Edge.SPAN);
        x.span(4, 4);
        Edge.refused(x, "4 .. 4 of 3 words", () -> x.lay(0), Edge.SPAN);
        x.span(0, 3);
        Edge.done(x, "0 .. 3 of 3 words", () -> x.lay(0), 0);
        x.draft(2);
        x.span(3, 3);
        Edge.done(x, "3 .. 3 of 3 words", () -> x.lay(1), 1);
        Due.bring(x, 2);
        x.draft(3);
        x.span(0, 1);
        Edge.refused(x, "0 .. 1 of an AMEND without words", () -> x.lay(2), Edge.SPAN);
        x.span(0, 0);
        Edge.done(x, "0 .. 0 of an AMEND without words", () -> x.lay(2), 2);
        MotionFloor y = Edge.mainOf(400);
        y.draft(2);
        y.span(0, 400);
        Edge.done(y, "0 .. 400 of 400 words", () -> y.lay(0), 0);
    }

    /** "(These two not, if it was LAID before)." */
    private static void layBeforeIsEnough() {
        MotionFloor x = Edge.mainOf(3);
        Due.layAmend(x, 0, 2, 2, 3, 9);
        x.take(0);
        Due.lose(x);
        Edge.done(x, "nothing is PENDING", () -> x.lay(1), 1);
        Due.bring(x, 1, 5);
        x.take(1);
        Edge.done(x, "beyond the TOP's TEXT", () -> x.lay(2), 2);
        Due.bring(x, 8);
        x.take(2);
        Edge.done(x, "on a RECESS", () -> x.lay(3), 3);
    }

    private static MotionFloor withPending(int freePlaces, int... kinds) {
        MotionFloor x = Due.sitting(4);
        Edge.fillDesk(x, 0, 8 - freePlaces);
        Due.bring(x, 1, 5, 6);
        for (int kind : kinds) {
            Due.bring(x, kind);
        }
        return x;
    }

    /** "10 it is the last free PLACE, and a COMMIT, POSTPONE or TABLE is PENDING." */
    private static void layLastPlace() {
        int[] kinds = {4, 5, 7};
        for (int kind : kinds) {
            MotionFloor x = withPending(1, kind);
            x.draft(1);
            Edge.refused(x, "lay(7), the last, with " + kind, () -> x.lay(7), Edge.ROOM);
            MotionFloor y = withPending(2, kind);
            y.draft(1);
            Edge.done(y, "lay(6) of two, with " + kind, () -> y.lay(6), 6);
            MotionFloor z = withPending(1, kind, 8);
            z.draft(1);
            Edge.refused(z, "lay(7), the last, with " + kind + " below the TOP", () -> z.lay(7), Edge.ROOM);
            z.withdraw(1);
            z.withdraw(1);
            Edge.done(z, "lay(7), the last, when it is gone", () -> z.lay(7), 7);
        }
    }

    /** The same: other KINDS leave the last PLACE to all, an empty assembly, too. */
    private static void layLastPlaceOfOthers() {
        int[] kinds = {2, 6, 8};
        for (int kind : kinds) {
            MotionFloor x = withPending(1, kind);
            x.draft(1);
            Edge.done(x, "lay(7), the last, with " + kind, () -> x.lay(7), 7);
        }
        MotionFloor y = new MotionFloor();
        Edge.fillDesk(y, 0, 7);
        y.draft(1);
        Edge.done(y, "lay(7), nothing PENDING", () -> y.lay(7), 7);
    }

    /** The same, of one that was LAID before, and of a TABLED row. */
    private static void layLastPlaceByKind() {
        MotionFloor x = withPending(1, 4);
        x.take(3);
        Edge.done(x, "lay(7) of two", () -> x.lay(7), 7);
        x.take(0);
        x.draft(1);
        x.lay(0);
        x.draft(1);
        Edge.refused(x, "lay(3), the last", () -> x.lay(3), Edge.ROOM);
        MotionFloor y = Due.sitting(4);
        Due.bring(y, 1, 5);
        Due.bring(y, 7);
        Due.carry(y);
        Edge.fillDesk(y, 1, 6);
        Due.bring(y, 1, 6);
        Due.bring(y, 4);
        y.draft(8);
        y.lay(6);
        y.take(0);
        Edge.done(y, "lay(7) of a TABLED row, one of two", () -> y.lay(7), 7);
        y.draft(8);
        Edge.refused(y, "lay(0), the last", () -> y.lay(0), Edge.ROOM);
    }

    /** "There is no DRAFT then. p." */
    private static void layNoDraftThen() {
        MotionFloor x = new MotionFloor();
        x.draft(8);
        Edge.done(x, "lay(5)", () -> x.lay(5), 5);
        Due.due("count(7)", x.count(7), 0);
        Edge.refused(x, "lay(6) again", () -> x.lay(6), Edge.STATE);
        Due.dueDesk(x, 5, 2, 8, 0, 0, 0, 0);
    }

    /** "In each act in the order told there": 9, 11, 1, 5, 10. */
    private static void layFirstReason() {
        MotionFloor x = withPending(1, 4);
        Edge.refused(x, "9 before 11, no DRAFT", () -> x.lay(8), Edge.RANGE);
        x.draft(3);
        x.span(0, 1);
        Edge.refused(x, "9 before 1", () -> x.lay(-1), Edge.RANGE);
        Edge.refused(x, "11 before 1, 5 and 10", () -> x.lay(0), Edge.STATE);
        Edge.refused(x, "1 before 5 and 10", () -> x.lay(7), Edge.RANK);
        x.draft(2);
        x.span(0, 1);
        Edge.refused(x, "11 before 5", () -> x.lay(0), Edge.STATE);
        Edge.refused(x, "5 before 10", () -> x.lay(7), Edge.SPAN);
        x.span(0, 0);
        Edge.refused(x, "11 before 10", () -> x.lay(0), Edge.STATE);
        Edge.refused(x, "10", () -> x.lay(7), Edge.ROOM);
    }

    // 14 take(p)

    /** "9." */
    private static void takeNoSuchPlace() {
        MotionFloor x = new MotionFloor();
        Edge.fillDesk(x, 0, 8);
        Edge.refused(x, "take(8)", () -> x.take(8), Edge.RANGE);
        Edge.refused(x, "take(-1)", () -> x.take(-1), Edge.RANGE);
        Edge.refused(x, "take(MIN)", () -> x.take(LEAST), Edge.RANGE);
        Edge.refused(x, "take(MAX)", () -> x.take(MOST), Edge.RANGE);
        Edge.done(x, "take(7)", () -> x.take(7), 8);
        x.lay(7);
        Edge.done(x, "take(0)", () -> x.take(0), 8);
    }

    /** "11 there is a DRAFT." */
    private static void takeWithDraft() {
        MotionFloor x = new MotionFloor();
        Edge.fillDesk(x, 0, 1);
        x.draft(1);
        Edge.refused(x, "take(0)", () -> x.take(0), Edge.STATE);
        x.lay(1);
        x.take(1);
        Edge.refused(x, "take(0) with one that was taken", () -> x.take(0), Edge.STATE);
    }

    /** "Or nothing there." */
    private static void takeNothing() {
        MotionFloor x = new MotionFloor();
        for (int p = 0; p < 8; p++) {
            int of = p;
            Edge.refused(x, "take(" + p + ")", () -> x.take(of), Edge.STATE);
        }
        Edge.fillDesk(x, 3, 4);
        x.take(3);
        x.draft(1);
        x.lay(0);
        Edge.refused(x, "take(3), from where it was taken", () -> x.take(3), Edge.STATE);
    }

    /** "A LETTER as a MAIN with its TEXT", without words, too; then it is a motion, and LAID as one. */
    private static void takeLetter() {
        MotionFloor x = Due.sitting(4);
        Due.bring(x, 1);
        Due.bring(x, 4);
        Due.carry(x);
        Due.dueDesk(x, 0, 1, 1, 0, 0, 0, 0);
        Edge.done(x, "take(0)", () -> x.take(0), 1);
        Due.dueText(x, 9);
        Edge.refused(x, "span(0, 0)", () -> x.span(0, 0), Edge.STATE);
        Edge.done(x, "word(5, 0, 0, 0)", () -> x.word(5, 0, 0, 0), 1);
        x.lay(0);
        Due.dueDesk(x, 0, 2, 1, 1, 0, 0, 0);
        x.take(0);
        Edge.refused(x, "word(6, 0, 0, 0), LAID", () -> x.word(6, 0, 0, 0), Edge.STATE);
        Edge.moveAlone(x, 3);
        Due.duePending(x, 0, 1, 3, -1, 1, 0, 0, 0, 0, 0, 0);
    }

    /** "Its KIND (7 of TABLED)." */
    private static void takeKinds() {
        MotionFloor x = Edge.mainOf(2);
        for (int kind = 1; kind <= 8; kind++) {
            int of = kind;
            if (kind == 3) {
                continue;
            }
            x.draft(kind);
            x.lay(0);
            Edge.done(x, "take(0) of " + kind, () -> x.take(0), of);
            Due.due("count(7)", x.count(7), of);
            Due.dueDesk(x, 0, 0, 0, 0, 0, 0, 0);
        }
        Due.bring(x, 7);
        Due.carry(x);
        Edge.done(x, "take(0) of a TABLED MAIN", () -> x.take(0), 7);
        Due.due("count(7)", x.count(7), 7);
    }

    /** "In each act in the order told there." */
    private static void takeFirstReason() {
        MotionFloor x = new MotionFloor();
        x.draft(1);
        Edge.refused(x, "9 before 11", () -> x.take(8), Edge.RANGE);
        Edge.refused(x, "11, a DRAFT and nothing there", () -> x.take(0), Edge.STATE);
    }

    // 15 move(s)

    /** "11 no DRAFT." */
    private static void moveNoDraft() {
        MotionFloor x = Due.sitting(3);
        Edge.refused(x, "move(-1)", () -> x.move(-1), Edge.STATE);
        x.floor(1);
        Edge.refused(x, "move(1)", () -> x.move(1), Edge.STATE);
    }

    /** "1 RANK: a MAIN: something is PENDING." */
    private static void moveMainOnSomething() {
        MotionFloor x = Edge.mainOf(1);
        x.draft(1);
        x.floor(1);
        Edge.refused(x, "move(1)", () -> x.move(1), Edge.RANK);
        x.told();
        x.floor(1);
        Edge.done(x, "move(1) when it is gone", () -> x.move(1), 1);
    }

    /** "(Or TABLED row)." */
    private static void moveRowOnSomething() {
        MotionFloor x = Edge.mainOf(1);
        Due.bring(x, 7);
        Due.carry(x);
        Due.bring(x, 1, 5);
        x.take(0);
        x.floor(1);
        Edge.refused(x, "move(1)", () -> x.move(1), Edge.RANK);
        x.told();
        x.floor(1);
        Edge.done(x, "move(1) when it is gone", () -> x.move(1), 1);
    }

    /** Whether THE DRAFT of this KIND has the RANK for SEAT 3, that has THE FLOOR, on what is PENDING. */
    private static void dueRank(MotionFloor x, int kind, boolean can) {
        x.draft(kind);
        Due.due(kind + " on " + x.pending(x.count(6) - 1, 0), x.order(3), can ? 1 : 0);
        Due.due("why()", x.why(), can ? 0 : Edge.RANK);
    }

    private static void dueRanks(MotionFloor x, int kind, String can) {
        x.floor(3);
        dueRank(x, kind, can.indexOf((char) ('0' + Math.max(0, x.pending(x.count(6) - 1, 0)))) >= 0);
        x.cede();
    }

    /** Every KIND that can be the TOP on MAIN, a CLOSE apart, on which nobody can have THE FLOOR. */
    private static void dueOnEveryTop(int kind, String can) {
        MotionFloor x = Due.sitting(4);
        dueRanks(x, kind, can);
        Due.bring(x, 1, 5);
        dueRanks(x, kind, can);
        for (int top = 2; top <= 8; top++) {
            if (top == 3 || top == 6) {
                continue;
            }
            Due.bring(x, top);
            dueRanks(x, kind, can);
            x.withdraw(1);
        }
        Due.bring(x, 2);
        Due.bring(x, 3);
        dueRanks(x, kind, can);
        x.rule();
        dueRanks(x, kind, can);
    }

    /** "An AMEND: the TOP is no MAIN, COMMIT, POSTPONE." */
    private static void moveAmendRank() {
        dueOnEveryTop(2, "145");
    }

    /** "A SECOND: it is no AMEND." */
    private static void moveSecondRank() {
        dueOnEveryTop(3, "2");
    }

    /** "Others: nothing is PENDING." */
    private static void moveOthersOnNothing() {
        for (int kind = 4; kind <= 8; kind++) {
            MotionFloor x = Due.sitting(4);
            x.floor(3);
            x.draft(kind);
            Edge.refused(x, "move(3) of " + kind, () -> x.move(3), Edge.RANK);
        }
    }

    /** "Or a motion of their RANK or above": the TOP, or one below it. */
    private static void moveOthersRank() {
        dueOnEveryTop(4, "123");
        dueOnEveryTop(5, "1234");
        dueOnEveryTop(6, "12345");
        dueOnEveryTop(7, "12345");
        dueOnEveryTop(8, "123457");
        for (int below = 4; below <= 5; below++) {
            MotionFloor x = Due.sitting(4);
            Due.bring(x, 1, 5);
            Due.bring(x, below);
            Due.bring(x, 2);
            x.floor(3);
            for (int kind = 4; kind <= 8; kind++) {
                dueRank(x, kind, kind > below);
            }
        }
    }

    /** "2 s has not THE FLOOR." NONE has it not when nobody has. */
    private static void moveWithoutFloor() {
        MotionFloor x = Due.sitting(3);
        x.draft(1);
        Edge.refused(x, "move(-1), nobody has it", () -> x.move(-1), Edge.FLOOR);
        Edge.refused(x, "move(0), nobody has it", () -> x.move(0), Edge.FLOOR);
        x.floor(1);
        Edge.refused(x, "move(2), another has it", () -> x.move(2), Edge.FLOOR);
        Edge.refused(x, "move(3)", () -> x.move(3), Edge.FLOOR);
        Edge.refused(x, "move(MIN)", () -> x.move(LEAST), Edge.FLOOR);
        Edge.refused(x, "move(MAX)", () -> x.move(MOST), Edge.FLOOR);
        Edge.done(x, "move(1)", () -> x.move(1), 1);
    }

    /** "3 the TOP has no seconder" (a RULING has a RANK above all). */
    private static void moveOnNotSeconded() {
        MotionFloor x = Due.sitting(4);
        x.chair(3);
        Due.write(x, 1, 5);
        Edge.moveAlone(x, 1);
        x.draft(2);
        x.floor(1);
        Edge.refused(x, "move(1)", () -> x.move(1), Edge.SECONDED);
        x.second(0);
        Edge.done(x, "move(1), seconded by SEAT 0", () -> x.move(1), 2);
        x.rule();
        x.appeal(2);
        x.draft(8);
        x.floor(1);
        Edge.refused(x, "move(1) on a RULING", () -> x.move(1), Edge.RANK);
    }

    /** "4 fewer THERE than the QUORUM." */
    private static void moveBelowQuorum() {
        MotionFloor x = Due.sitting(4);
        x.quorum(3);
        x.draft(1);
        x.floor(1);
        x.gone(3);
        x.gone(2);
        Edge.refused(x, "2 of 3", () -> x.move(1), Edge.QUORUM);
        x.there(2);
        Edge.done(x, "3 of 3", () -> x.move(1), 1);
        MotionFloor y = Due.sitting(4);
        y.quorum(5);
        y.draft(1);
        y.floor(1);
        Edge.refused(y, "all 4 of 5", () -> y.move(1), Edge.QUORUM);
        y.quorum(4);
        Edge.done(y, "all 4 of 4", () -> y.move(1), 1);
    }

    /** "5 SPAN: of an AMEND, SECOND: it is OUT OF ORDER." */
    private static void moveOutOfOrder() {
        MotionFloor x = Edge.mainOf(4);
        Due.layAmend(x, 0, 2, 1, 3, 9);
        Due.bringAmend(x, 2, 2, 3, 8);
        Due.layAmend(x, 1, 3, 0, 1, 7);
        Due.bringAmend(x, 3, 0, 1, 6);
        Due.carry(x);
        x.take(1);
        x.floor(1);
        Edge.refused(x, "a SECOND", () -> x.move(1), Edge.SPAN);
        x.lay(1);
        Due.carry(x);
        x.take(0);
        x.floor(1);
        Edge.refused(x, "an AMEND", () -> x.move(1), Edge.SPAN);
    }

    /** "Or its SUBJECT is not the TOP", though one of the same KIND and words is. */
    private static void moveSubjectNotTop() {
        MotionFloor x = Edge.mainOf(3);
        Due.layAmend(x, 0, 2, 0, 1, 9);
        Due.bring(x, 4, 5, 6, 7);
        x.take(0);
        x.floor(1);
        Edge.refused(x, "on a COMMIT", () -> x.move(1), Edge.SPAN);
        x.cede();
        Due.lose(x);
        x.floor(1);
        Edge.done(x, "on its SUBJECT again", () -> x.move(1), 2);
        MotionFloor y = Edge.mainOf(3);
        Due.layAmend(y, 0, 2, 0, 1, 9);
        Due.lose(y);
        y.draft(1);
        Due.fill(y, 3, 1);
        Due.bring(y);
        y.take(0);
        y.floor(1);
        Edge.refused(y, "on another MAIN", () -> y.move(1), Edge.SPAN);
    }

    /** "Or the SPAN goes beyond its TEXT." */
    private static void moveBeyond() {
        MotionFloor x = Edge.mainOf(3);
        x.floor(1);
        x.draft(2);
        x.span(0, 4);
        Edge.refused(x, "0 .. 4 of 3", () -> x.move(1), Edge.SPAN);
        x.span(4, 4);
        Edge.refused(x, "4 .. 4 of 3", () -> x.move(1), Edge.SPAN);
        x.span(3, 3);
        Edge.done(x, "3 .. 3 of 3", () -> x.move(1), 2);
        x.second(2);
        x.floor(1);
        x.draft(3);
        x.span(0, 1);
        Edge.refused(x, "0 .. 1 of an AMEND without words", () -> x.move(1), Edge.SPAN);
        x.span(0, 0);
        Edge.done(x, "0 .. 0 of an AMEND without words", () -> x.move(1), 3);
        MotionFloor y = Edge.mainOf(400);
        y.floor(1);
        y.draft(2);
        y.span(0, 400);
        Edge.done(y, "0 .. 400 of 400", () -> y.move(1), 2);
    }

    /** "10: 9 are PENDING." */
    private static void moveOnNine() {
        int[] tops = {3, 7};
        for (int kind : tops) {
            MotionFloor x = Edge.ninePending(kind);
            x.draft(8);
            x.floor(1);
            Edge.refused(x, "move(1) on 9, the TOP is " + kind, () -> x.move(1), Edge.ROOM);
            x.cede();
            x.withdraw(1);
            x.floor(1);
            Edge.done(x, "move(1) on 8", () -> x.move(1), 9);
        }
    }

    /** "By it a TEXT (that of its SUBJECT as it would be ..) would have more than 400 words." */
    private static void moveTextTooLong() {
        MotionFloor x = Edge.mainOf(399);
        x.floor(1);
        Edge.writeAmend(x, 2, 0, 0, 2);
        Edge.refused(x, "399 and 2", () -> x.move(1), Edge.ROOM);
        Edge.writeAmend(x, 2, 0, 1, 3);
        Edge.refused(x, "399 without 1 and 3", () -> x.move(1), Edge.ROOM);
        Edge.writeAmend(x, 2, 399, 399, 1);
        Edge.done(x, "399 and 1", () -> x.move(1), 2);
        x.second(2);
        Due.carry(x);
        Due.due("pending(0, 3)", x.pending(0, 3), 400);
        Due.due("text(0, 399)", x.text(0, 399), 1001);
        x.floor(1);
        Edge.writeAmend(x, 2, 0, 399, 400);
        Edge.refused(x, "400 without 399 and 400", () -> x.move(1), Edge.ROOM);
        Edge.writeAmend(x, 2, 0, 400, 400);
        Edge.done(x, "400 without 400 and 400", () -> x.move(1), 2);
        x.second(2);
        x.floor(1);
        Edge.writeAmend(x, 3, 0, 0, 1);
        Edge.refused(x, "an AMEND's TEXT, 400 and 1", () -> x.move(1), Edge.ROOM);
    }

    /** "And for a SECOND that of the AMEND's SUBJECT." */
    private static void moveTextTooLongBySecond() {
        MotionFloor x = Edge.mainOf(390);
        Edge.writeAmend(x, 2, 0, 2, 10);
        Due.bring(x);
        x.floor(1);
        Edge.writeAmend(x, 3, 0, 1, 4);
        Edge.refused(x, "390 without 2 and 13", () -> x.move(1), Edge.ROOM);
        Edge.writeAmend(x, 3, 0, 1, 3);
        Edge.done(x, "390 without 2 and 12", () -> x.move(1), 3);
        x.second(2);
        Due.carry(x);
        Due.carry(x);
        Due.due("pending(0, 3)", x.pending(0, 3), 400);
        MotionFloor y = Edge.mainOf(400);
        Due.bring(y, 4, 5, 6);
        Due.bringAmend(y, 2, 0, 1, 7, 8);
        y.floor(1);
        Edge.writeAmend(y, 3, 0, 2, 5);
        Edge.done(y, "the AMEND's SUBJECT is a COMMIT, not the MAIN", () -> y.move(1), 4);
    }

    /** "A COMMIT, POSTPONE, TABLE without a free PLACE." */
    private static void moveWithoutPlace() {
        for (int kind = 4; kind <= 8; kind++) {
            MotionFloor x = Edge.mainOf(1);
            Edge.fillDesk(x, 0, 8);
            x.draft(kind);
            x.floor(1);
            if (kind == 6 || kind == 8) {
                Edge.done(x, "move(1) of " + kind, () -> x.move(1), 2);
            } else {
                Edge.refused(x, "move(1) of " + kind, () -> x.move(1), Edge.ROOM);
            }
        }
        for (int kind = 4; kind <= 7; kind++) {
            MotionFloor x = Edge.mainOf(1);
            Edge.fillDesk(x, 0, 7);
            x.draft(kind);
            x.floor(1);
            Edge.done(x, "move(1) with one free PLACE of " + kind, () -> x.move(1), 2);
        }
    }

    /** "In each act in the order told there": 11, 1, 2, 3, 4, 5, 10. */
    private static void moveFirstReason() {
        MotionFloor x = Edge.ninePending(7);
        x.adjourn();
        Edge.refused(x, "11 before 2", () -> x.move(1), Edge.STATE);
        x.quorum(4);
        x.draft(4);
        Edge.refused(x, "1 before 2", () -> x.move(1), Edge.RANK);
        x.draft(1);
        Due.fill(x, 400, 1);
        x.floor(1);
        x.move(1);
        Edge.writeAmend(x, 2, 1, 400, 400);
        x.gone(3);
        Edge.refused(x, "2 before 3, 4 and 10", () -> x.move(1), Edge.FLOOR);
        x.floor(1);
        Edge.refused(x, "3 before 4 and 10", () -> x.move(1), Edge.SECONDED);
        x.draft(1);
        Edge.refused(x, "1 before 3 and 4", () -> x.move(1), Edge.RANK);
        Edge.writeAmend(x, 2, 1, 400, 400);
        x.second(2);
        Edge.refused(x, "4 before 10", () -> x.move(1), Edge.QUORUM);
        x.there(3);
        Edge.refused(x, "10", () -> x.move(1), Edge.ROOM);
        MotionFloor y = Edge.mainOf(2);
        Edge.writeAmend(y, 2, 0, 3, 400);
        y.floor(1);
        Edge.refused(y, "5 before 10", () -> y.move(1), Edge.SPAN);
        y.gone(1);
        Edge.refused(y, "2 before 5", () -> y.move(1), Edge.FLOOR);
        MotionFloor z = Edge.ninePending(8);
        z.draft(4);
        z.floor(1);
        Edge.refused(z, "1 before 10", () -> z.move(1), Edge.RANK);
        MotionFloor q = Due.sitting(4);
        q.quorum(4);
        Due.bring(q, 1, 1, 2);
        q.floor(1);
        q.draft(2);
        q.span(0, 3);
        q.gone(3);
        Edge.refused(q, "4 before 5", () -> q.move(1), Edge.QUORUM);
        q.there(3);
        Edge.refused(q, "5", () -> q.move(1), Edge.SPAN);
    }

    /** "It is PENDING, nobody has THE FLOOR." */
    private static void moveNobodyHasFloor() {
        MotionFloor x = Due.sitting(3);
        x.draft(1);
        x.floor(1);
        Edge.done(x, "move(1)", () -> x.move(1), 1);
        Due.due("count(5)", x.count(5), -1);
        Due.due("count(7)", x.count(7), 0);
        Edge.refused(x, "move(1) again", () -> x.move(1), Edge.STATE);
    }

    /** "s is its mover": not the one that laid it, or that moved it before it was postponed. */
    private static void moveMover() {
        MotionFloor x = Edge.mainOf(1);
        Due.bring(x, 5);
        Due.carry(x);
        x.take(0);
        Edge.moveAlone(x, 3);
        Due.due("pending(0, 1)", x.pending(0, 1), 3);
        Edge.refused(x, "withdraw(1)", () -> x.withdraw(1), Edge.FLOOR);
        Edge.done(x, "withdraw(3)", () -> x.withdraw(3), 0);
    }

    /** "A MAIN that was postponed has its seconder still": if it was LAID again, too, and none if it had none. */
    private static void movePostponedSeconder() {
        MotionFloor x = Edge.mainOf(1);
        Due.bring(x, 5);
        Due.carry(x);
        x.take(0);
        x.lay(6);
        x.take(6);
        Edge.moveAlone(x, 2);
        Due.duePending(x, 0, 1, 2, 2, 1, 0, 0, 0, 0, 0, 0);
        Edge.refused(x, "second(3)", () -> x.second(3), Edge.SECONDED);
        MotionFloor y = Due.sitting(4);
        Due.write(y, 1, 5);
        y.lay(0);
        y.take(0);
        Edge.moveAlone(y, 1);
        Due.due("a MAIN that was LAID has none", y.pending(0, 2), -1);
    }

    /** "Of a TABLED row all are PENDING as they were (with movers and VOTES)." */
    private static void moveRowAsItWas() {
        MotionFloor x = Edge.mainOf(2);
        x.floor(3);
        x.debate(3);
        x.cede();
        x.vote(3, 0);
        Due.bringAmend(x, 2, 0, 1, 9);
        x.vote(1, 1);
        x.vote(2, 0);
        Due.bring(x, 6);
        Due.carry(x);
        x.rule();
        x.appeal(1);
        x.vote(1, 0);
        x.told();
        Due.due("CLOSED", x.pending(1, 8), 1);
        Edge.refused(x, "no more on a CLOSED one", () -> x.floor(1), Edge.CLOSED);
        Due.lose(x);
        Due.bringAmend(x, 2, 1, 2, 8, 7);
        x.vote(0, 1);
        Due.bring(x, 7);
        Due.carry(x);
        Edge.done(x, "take(0)", () -> x.take(0), 7);
        x.floor(3);
        Edge.done(x, "move(3)", () -> x.move(3), 2);
        Due.duePending(x, 0, 1, 1, 2, 2, 0, 0, 3, 1, 0, 1);
        Due.duePending(x, 1, 2, 1, 2, 2, 1, 2, 1, 0, 0, 1);
        Due.due("ballot(0)", x.ballot(0), 1);
        Due.dueText(x, 1, 8, 7);
    }

    /** "(Of a TABLED row never)": the greatest row. */
    private static void moveRowOfEight() {
        MotionFloor x = Edge.ninePending(7);
        Due.carry(x);
        Due.dueDesk(x, 0, 3, 8, 1, 0, 0, 0);
        x.take(0);
        x.floor(3);
        Edge.done(x, "move(3)", () -> x.move(3), 8);
        Due.due("pending(7, 0)", x.pending(7, 0), 2);
        Due.due("pending(8, 0)", x.pending(8, 0), -1);
    }

    /** "How many are PENDING." */
    private static void moveHowMany() {
        MotionFloor x = Due.sitting(4);
        int[] kinds = {1, 2, 3, 4, 2, 3, 5, 2, 3};
        for (int i = 0; i < kinds.length; i++) {
            x.draft(kinds[i]);
            x.floor(1);
            int due = i + 1;
            Edge.done(x, "move(1)", () -> x.move(1), due);
            x.second(2);
        }
    }
}
