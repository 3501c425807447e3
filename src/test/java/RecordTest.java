import java.util.List;

/** Promises 35 .. 42: the MINUTES, THE ROW and images. */
public final class RecordTest {
    private static final int LEAST = Integer.MIN_VALUE;
    private static final int MOST = Integer.MAX_VALUE;

    public static void main(String[] args) {
        journal();
        before();
        again();
        tell();
        check();
        checkEveryAct();
        checkStays();
        strike();
        image();
        back();
        backOfMotions();
        backOfAll();
        backOfSubject();
        roomOfEntries();
        Due.end();
    }

    private static void due(String call, int got, int want) {
        Due.due(call, got, want);
    }

    private static void journal() {
        MotionFloor x = new MotionFloor();
        x.seats(4);
        due("journal(0, 0)", x.journal(0, 0), -1);
        x.there(3);
        x.there(3);
        x.majority(2, 3);
        x.draft(2);
        x.span(5, 9);
        x.word(4, 0, 30, 2);
        x.chair(3);
        x.adjourn();
        Due.dueEntry(x, 0, 1, 3, 0, 0, 0, 1, -1, -1);
        Due.dueEntry(x, 1, 5, 2, 3, 0, 0, 1, -1);
        Due.dueEntry(x, 2, 10, 2, 0, 0, 0, 2, -1);
        Due.dueEntry(x, 3, 11, 5, 9, 0, 0, 4, -1);
        Due.dueEntry(x, 4, 12, 4, 0, 30, 2, 3, -1);
        Due.dueEntry(x, 5, 4, 3, 0, 0, 0, 3, -1);
        Due.dueEntry(x, 6, 22, 0, 0, 0, 0, 0, -1);
        due("journal(7, 0)", x.journal(7, 0), -1);
        due("journal(-1, 0)", x.journal(-1, 0), -1);
        due("journal(0, -1)", x.journal(0, -1), -1);
        due("journal(MAX, MAX)", x.journal(MOST, MOST), -1);
        due("journal(MIN, MIN)", x.journal(LEAST, LEAST), -1);
        x = Due.sitting(5);
        x.quorum(1);
        x.limit(5);
        Due.bring(x, 1, 7);
        x.vote(3, 0);
        x.vote(3, 2);
        x.floor(3);
        x.debate(3);
        x.cede();
        x.rule();
        x.appeal(4);
        x.vote(4, 0);
        x.told();
        x.withdraw(1);
        x.draft(8);
        x.lay(2);
        x.take(2);
        x.gone(4);
        int[][] entries = {
            {1, 0, 0, 0, 0, 1}, {1, 1, 0, 0, 0, 2}, {1, 2, 0, 0, 0, 3}, {1, 3, 0, 0, 0, 4}, {1, 4, 0, 0, 0, 5},
            {4, 0, 0, 0, 0, 0}, {3, 1, 0, 0, 0, 1}, {6, 5, 0, 0, 0, 5}, {10, 1, 0, 0, 0, 1}, {12, 7, 0, 0, 0, 1},
            {7, 1, 0, 0, 0, 0}, {15, 1, 0, 0, 0, 1}, {16, 2, 0, 0, 0, 1}, {17, 3, 0, 0, 0, 1}, {17, 3, 2, 0, 0, 0},
            {7, 3, 0, 0, 0, 1}, {9, 3, 0, 0, 0, 1}, {8, 0, 0, 0, 0, 3}, {19, 0, 0, 0, 0, 9}, {20, 4, 0, 0, 0, 1},
            {17, 4, 0, 0, 0, 1}, {21, 0, 0, 0, 0, 5}, {18, 1, 0, 0, 0, 0}, {10, 8, 0, 0, 0, 8}, {13, 2, 0, 0, 0, 2},
            {14, 2, 0, 0, 0, 8}, {2, 4, 0, 0, 0, 4},
        };
        for (int i = 0; i < entries.length; i++) {
            Due.dueEntry(x, i, entries[i]);
        }
        due("count(8)", x.count(8), entries.length);
    }

    private static void before() {
        MotionFloor x = Due.sitting(4);
        Due.bring(x, 1, 5, 6);
        Due.bringAmend(x, 2, 0, 1, 7, 8);
        Due.carry(x);
        Due.carry(x);
        int entries = x.count(8);
        due("entries", entries, 24);
        due("before(24, -1, 0)", x.before(24, -1, 0), 7);
        due("before(23, -1, 0)", x.before(23, -1, 0), -1);
        due("before(23, 0, 0)", x.before(23, 0, 0), 7);
        due("before(21, 0, 2)", x.before(21, 0, 2), 6);
        due("before(21, 1, 1)", x.before(21, 1, 1), -1);
        due("before(20, 0, 0)", x.before(20, 0, 0), 5);
        due("before(20, 1, 1)", x.before(20, 1, 1), 8);
        due("before(6, 9, 0)", x.before(6, 9, 0), -1);
        due("before(7, 9, 0)", x.before(7, 9, 0), 5);
        due("before(8, 9, 1)", x.before(8, 9, 1), 6);
        due("before(9, 9, 0)", x.before(9, 9, 0), 5);
        due("before(10, 9, 0)", x.before(10, 9, 0), -1);
        due("before(10, 0, 0)", x.before(10, 0, 0), 5);
        due("before(14, 9, 1)", x.before(14, 9, 1), 8);
        due("before(0, 0, 0)", x.before(0, 0, 0), -1);
        due("before(0, -1, 0)", x.before(0, -1, 0), -1);
        due("before(25, -1, 0)", x.before(25, -1, 0), -1);
        due("before(-1, -1, 0)", x.before(-1, -1, 0), -1);
        due("before(MAX, -1, 0)", x.before(MOST, -1, 0), -1);
        due("before(MIN, 9, 0)", x.before(LEAST, 9, 0), -1);
        due("before(24, 2, 0)", x.before(24, 2, 0), -1);
        due("before(24, MAX, MIN)", x.before(24, MOST, LEAST), -1);
        due("what there is stays", x.count(8), 24);
        due("text(-1, 0)", x.text(-1, 0), 7);
    }

    private static void again() {
        MotionFloor x = Due.sitting(4);
        due("again()", x.again(), -1);
        Due.bring(x, 1, 5, 6);
        Due.layAmend(x, 2, 2, 0, 1, 9);
        x.take(2);
        x.lay(3);
        Due.bringAmend(x, 2, 0, 1, 7, 8);
        Due.carry(x);
        x.rule();
        x.appeal(1);
        x.vote(2, 0);
        x.told();
        Due.bring(x, 5, 3);
        Due.carry(x);
        x.take(0);
        Due.write(x, 2, 5);
        x.gone(3);
        due("again()", x.again(), -1);
        x.image(0);
        x.adjourn();
        due("again()", x.again(), -1);
        x.seats(2);
        x.there(1);
        due("again()", x.again(), -1);
        x.back(0);
        due("again()", x.again(), -1);
    }

    private static void tell() {
        MotionFloor x = new MotionFloor();
        for (int i = 1; i <= 600; i++) {
            int told = x.tell(i, MOST, LEAST, -1, 0, i);
            if (told != i) {
                due("tell() " + i, told, i);
            }
        }
        due("count(12)", x.count(12), 600);
        due("one more", x.tell(1, 0, 0, 0, 0, 0), -10);
        due("count(12)", x.count(12), 600);
        due("strike()", x.strike(), 600);
        due("tell()", x.tell(1, 0, 0, 0, 0, 0), 1);
    }

    private static void check() {
        MotionFloor x = new MotionFloor();
        x.seats(3);
        due("check() of nothing", x.check(), -1);
        x.tell(1, 0, 0, 0, 0, 1);
        x.tell(1, 2, 0, 0, 0, 2);
        x.tell(5, 2, 3, 0, 0, 1);
        x.tell(4, 2, 0, 0, 0, 2);
        due("check()", x.check(), -1);
        x.tell(1, 2, 0, 0, 0, -11);
        due("a refused one", x.check(), 4);
        x.seats(2);
        due("in fewer SEATS", x.check(), 1);
        int[][] wrong = {
            {0, 0, 0, 0, 0, 0}, {23, 0, 0, 0, 0, 0}, {-1, 0, 0, 0, 0, 0}, {MOST, 0, 0, 0, 0, 0}, {LEAST, 0, 0, 0, 0, 0},
            {1, 0, 0, 0, 0, 0}, {1, 0, 0, 0, 0, 3}, {1, 0, 1, 0, 0, 2}, {1, 0, 0, 1, 0, 2}, {1, 0, 0, 0, 1, 2},
            {1, 0, 0, 0, -1, 2}, {1, 3, 0, 0, 0, -9}, {1, 3, 0, 0, 0, 1}, {5, 6, 1, 1, 0, 2}, {8, 0, 0, 0, 0, -2},
            {10, 0, 0, 0, 0, -9}, {10, 2, 2, 0, 0, 2}, {22, 0, 0, 0, 0, -8}, {21, 0, 0, 0, 0, 0},
        };
        x.seats(3);
        for (int[] entry : wrong) {
            x.strike();
            x.tell(1, 1, 0, 0, 0, 1);
            x.tell(entry[0], entry[1], entry[2], entry[3], entry[4], entry[5]);
            x.tell(1, 2, 0, 0, 0, 3);
            due("check() of a wrong act " + entry[0], x.check(), 1);
        }
        x.strike();
        x.tell(5, 6, 1, 0, 0, 2);
        x.tell(10, 1, 0, 0, 0, 1);
        x.tell(12, 1, 0, 0, 5, 2);
        due("check()", x.check(), -1);
        x.tell(12, 1, 0, 0, 5, 5);
        due("check()", x.check(), 3);
    }

    /** All that a run of all acts has in its MINUTES is in order in THE ROW; with a number too many it is not. */
    private static void checkEveryAct() {
        int[] numbers = {0, 1, 1, 1, 1, 2, 1, 1, 0, 1, 1, 2, 4, 1, 1, 1, 1, 2, 1, 0, 1, 0, 0};
        MotionFloor x = everyAct();
        int entries = x.count(8);
        boolean[] had = new boolean[23];
        for (int i = 0; i < entries; i++) {
            had[x.journal(i, 0)] = true;
            x.tell(x.journal(i, 0), x.journal(i, 1), x.journal(i, 2), x.journal(i, 3), x.journal(i, 4), x.journal(i, 5));
        }
        due("check()", x.check(), -1);
        for (int act = 1; act <= 22; act++) {
            due("act " + act + " is there", had[act] ? 1 : 0, 1);
        }
        for (int i = 0; i < entries; i++) {
            for (int extra = numbers[x.journal(i, 0)]; extra < 4; extra++) {
                MotionFloor y = new MotionFloor();
                y.seats(4);
                for (int k = 0; k <= i; k++) {
                    int[] n = {0, 0, 0, 0};
                    for (int j = 0; j < 4; j++) {
                        n[j] = x.journal(k, j + 1) + (k == i && j == extra ? 7 : 0);
                    }
                    y.tell(x.journal(k, 0), n[0], n[1], n[2], n[3], x.journal(k, 5));
                }
                due("check() with a number too many", y.check(), i);
            }
        }
    }

    private static MotionFloor everyAct() {
        MotionFloor x = Due.sitting(4);
        x.quorum(1);
        x.limit(5);
        x.majority(1, 2);
        Due.bring(x, 1, 5, 6);
        Due.layAmend(x, 2, 2, 0, 1, 9);
        x.take(2);
        x.lay(3);
        x.floor(3);
        x.debate(3);
        x.cede();
        Due.bring(x, 4);
        x.withdraw(1);
        x.rule();
        x.appeal(1);
        x.vote(1, 0);
        x.told();
        x.gone(3);
        x.adjourn();
        return x;
    }

    private static void checkStays() {
        MotionFloor x = everyAct();
        Due.bring(x, 1, 5);
        x.floor(9);
        int entries = x.count(8);
        x.tell(1, 0, 0, 0, 0, 1);
        due("check()", x.check(), -1);
        due("why() stays", x.why(), 9);
        due("count(8)", x.count(8), entries);
        due("count(6)", x.count(6), 1);
        due("count(12)", x.count(12), 1);
        due("check() again", x.check(), -1);
        due("text(0, 0)", x.text(0, 0), 5);
    }

    private static void strike() {
        MotionFloor x = new MotionFloor();
        due("strike()", x.strike(), 0);
        x.tell(9, 0, 0, 0, 0, 1);
        x.tell(9, 0, 0, 0, 0, 1);
        due("strike()", x.strike(), 2);
        due("count(12)", x.count(12), 0);
        due("check()", x.check(), -1);
        due("strike()", x.strike(), 0);
    }

    private static void image() {
        MotionFloor x = new MotionFloor();
        due("image(2)", x.image(2), -9);
        due("image(-1)", x.image(-1), -9);
        due("image(MIN)", x.image(LEAST), -9);
        due("back(2)", x.back(2), -9);
        due("back(-1)", x.back(-1), -9);
        due("back(0)", x.back(0), -11);
        due("image(0)", x.image(0), 0);
        due("back(1)", x.back(1), -11);
        x.there(0);
        due("image(1)", x.image(1), 1);
        x.chair(0);
        due("back(0)", x.back(0), 0);
        due("count(1)", x.count(1), 0);
        due("back(1)", x.back(1), 1);
        due("count(1)", x.count(1), 1);
        due("count(2)", x.count(2), -1);
        x.chair(0);
        due("image(0) anew", x.image(0), 2);
        x.seats(9);
        due("back(0)", x.back(0), 2);
        due("count(0)", x.count(0), 1);
        due("count(2)", x.count(2), 0);
    }

    private static void back() {
        MotionFloor x = everyAct();
        Due.bring(x, 1, 5, 6);
        Due.carry(x);
        Due.bring(x, 1, 7);
        Due.bring(x, 2, 8);
        x.vote(1, 0);
        Due.write(x, 3, 9);
        x.tell(1, 0, 0, 0, 0, 1);
        x.floor(1);
        int entries = x.count(8);
        due("image(1)", x.image(1), entries);
        x.vote(1, 1);
        Due.carry(x);
        Due.bring(x, 8);
        Due.carry(x);
        x.strike();
        x.there(9);
        due("why()", x.why(), 9);
        due("back(1)", x.back(1), entries);
        due("why()", x.why(), 0);
        due("THE ROW is no part of it", x.count(12), 0);
        due("count(8)", x.count(8), entries);
        due("count(9)", x.count(9), 2);
        due("count(1)", x.count(1), 3);
        due("count(3)", x.count(3), 1);
        due("count(4)", x.count(4), 5);
        due("count(5)", x.count(5), 1);
        due("count(6)", x.count(6), 2);
        due("count(7)", x.count(7), 3);
        due("count(11)", x.count(11), 1);
        due("ballot(1)", x.ballot(1), 0);
        due("ballot(2)", x.ballot(2), -1);
        Due.dueText(x, -1, 5, 6);
        Due.dueText(x, 0, 7);
        Due.dueText(x, 1, 8);
        Due.dueText(x, 9, 9);
        Due.dueDesk(x, 3, 2, 2, 1, 0, 1, 0);
        Due.dueResult(x, 1, 42, 1, 1, 2, 0, -1);
        Due.dueEntry(x, entries - 1, 7, 1, 0, 0, 0, 1);
        due("again()", x.again(), -1);
        due("its own acts leave the image", x.cede(), 1);
        x.adjourn();
        due("back(1)", x.back(1), entries);
        due("count(6)", x.count(6), 2);
        due("majority stays", x.count(5), 1);
        x.adjourn();
        due("majority(1, 1)", x.majority(1, 1), 2);
    }

    /** A LAID one knows its SUBJECT behind back(), and two images don't mix. */
    private static void backOfMotions() {
        MotionFloor x = Due.sitting(4);
        Due.bring(x, 1, 1, 2, 3);
        Due.layAmend(x, 0, 2, 1, 2, 7);
        Due.bring(x, 7);
        x.image(0);
        Due.carry(x);
        x.image(1);
        x.seats(2);
        due("back(0)", x.back(0), x.count(8));
        due("count(6)", x.count(6), 2);
        Due.lose(x);
        x.take(0);
        x.floor(1);
        due("move(1)", x.move(1), 2);
        due("back(1)", x.back(1), x.count(8));
        due("count(6)", x.count(6), 0);
        Due.dueDesk(x, 1, 3, 1, 3, 0, 0, 0);
        x.take(1);
        x.floor(1);
        due("move(1)", x.move(1), 1);
        x.take(0);
        x.floor(2);
        due("move(2)", x.move(2), 2);
        due("ballot(1)", x.ballot(1), -1);
        x.back(0);
        Due.bring(x, 8);
        Due.carry(x);
        due("count(1)", x.count(1), 0);
        x.back(1);
        due("count(1)", x.count(1), 4);
    }

    /** Something of all that there can be. */
    private static MotionFloor wholeFloor() {
        MotionFloor x = Due.sitting(6);
        x.quorum(2);
        x.limit(9);
        x.majority(4, 3);
        x.majority(4, 1);
        x.majority(8, 3);
        Due.bring(x, 1, 1, 2);
        Due.carry(x);
        Due.bring(x, 1, 3, 4);
        Due.bring(x, 4);
        Due.carry(x);
        Due.bring(x, 1, 5, 6);
        Due.bring(x, 5, 7);
        Due.carry(x);
        Due.bring(x, 1, 8, 9);
        Due.bring(x, 2, 10);
        x.vote(3, 0);
        Due.bring(x, 7);
        Due.carry(x);
        Due.bring(x, 1, 11, 12, 13);
        x.vote(4, 0);
        Due.layAmend(x, 4, 2, 1, 3, 14);
        Due.layAmend(x, 5, 2, 0, 1, 15);
        Due.layAmend(x, 6, 2, 2, 3, 24);
        Due.bringAmend(x, 2, 1, 2, 16, 17);
        Due.carry(x);
        Due.bringAmend(x, 2, 1, 1, 18, 19);
        x.floor(5);
        x.debate(5);
        x.cede();
        x.vote(1, 1);
        x.vote(2, 0);
        Due.bring(x, 6);
        Due.carry(x);
        x.gone(5);
        x.chair(4);
        x.take(6);
        x.rule();
        x.floor(3);
        return x;
    }

    private static void backOfAll() {
        MotionFloor x = wholeFloor();
        MotionFloor y = wholeFloor();
        List<Integer> whole = Due.all(x);
        x.image(0);
        x.adjourn();
        List<Integer> empty = Due.all(x);
        x.image(1);
        for (int seats = 9; seats > 7; seats--) {
            x.seats(seats);
            for (int s = 0; s < seats; s++) {
                x.there(s);
            }
            x.chair(0);
            x.majority(8, 2);
            Due.bring(x, 1, 20, 21, 22, 23);
            x.vote(5, 1);
            Due.layAmend(x, 4, 2, 0, 1, 9);
            due("back(0)", x.back(0), x.count(8));
            due("all is as it was", Due.all(x).equals(whole) ? 1 : 0, 1);
            due("again()", x.again(), -1);
            due("back(1)", x.back(1), x.count(8));
            due("all is as it was", Due.all(x).equals(empty) ? 1 : 0, 1);
            due("majority(8, 1)", x.majority(8, 1), 3);
        }
        x.back(0);
        goOn(x);
        goOn(y);
        due("it goes on as if it had been there", Due.all(x).equals(Due.all(y)) ? 1 : 0, 1);
        x.back(0);
        due("the image stays", Due.all(x).equals(whole) ? 1 : 0, 1);
    }

    /** LAID, TABLED and PENDING ones are used as they are. */
    private static void goOn(MotionFloor x) {
        due("told()", x.told(), 4);
        x.floor(1);
        due("move(1)", x.move(1), 2);
        x.second(2);
        Due.carry(x);
        x.take(4);
        x.floor(1);
        due("one OUT OF ORDER", x.move(1), -5);
        x.lay(4);
        x.take(5);
        due("move(1)", x.move(1), 2);
        due("told()", x.told(), 3);
        Due.lose(x);
        x.take(1);
        x.floor(3);
        due("one that was postponed", x.move(3), 1);
        due("pending(0, 2)", x.pending(0, 2), 2);
        Due.carry(x);
        x.take(2);
        x.floor(3);
        due("a TABLED row", x.move(3), 2);
        Due.carry(x);
    }

    /** A motion that is new behind back() is nobody's SUBJECT. */
    private static void backOfSubject() {
        MotionFloor x = Due.sitting(4);
        Due.bring(x, 1, 1, 2);
        Due.layAmend(x, 0, 2, 0, 1, 3);
        Due.lose(x);
        x.image(0);
        x.seats(4);
        x.back(0);
        Due.bring(x, 1, 1, 2);
        x.take(0);
        x.floor(3);
        due("its SUBJECT is gone", x.move(3), -5);
    }

    /** No run of 512 calls gets there; it is how the object keeps within its room. */
    private static void roomOfEntries() {
        MotionFloor x = new MotionFloor();
        for (int i = 0; i < 600; i++) {
            x.draft(1);
        }
        due("one ENTRY more", x.draft(1), -10);
        due("why()", x.why(), 10);
        due("a wrong one", x.draft(9), -9);
        due("count(8)", x.count(8), 600);
        due("again()", x.again(), -1);
        due("image(0)", x.image(0), 600);
        due("back(0)", x.back(0), 600);
    }
}
