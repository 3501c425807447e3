import java.util.List;
import java.util.function.IntSupplier;

/** Calls at the edges: one that is refused changes nothing that can be asked, one that is done is one ENTRY. */
final class Edge {
    static final int LEAST = Integer.MIN_VALUE;
    static final int MOST = Integer.MAX_VALUE;

    static final int RANK = 1;
    static final int FLOOR = 2;
    static final int SECONDED = 3;
    static final int QUORUM = 4;
    static final int SPAN = 5;
    static final int CLOSED = 6;
    static final int PENDING = 7;
    static final int THERE = 8;
    static final int RANGE = 9;
    static final int ROOM = 10;
    static final int STATE = 11;

    private Edge() {
    }

    static void refused(MotionFloor x, String call, IntSupplier act, int reason) {
        List<Integer> before = Due.all(x);
        Due.due(call, act.getAsInt(), -reason);
        Due.due("why() behind " + call, x.why(), reason);
        Due.due("nothing has changed behind " + call, Due.all(x).equals(before) ? 1 : 0, 1);
    }

    static void done(MotionFloor x, String call, IntSupplier act, int answer) {
        int entries = x.count(8);
        Due.due(call, act.getAsInt(), answer);
        Due.due("why() behind " + call, x.why(), 0);
        Due.due("ENTRIES behind " + call, x.count(8), entries + 1);
        Due.due("the ENTRY's answer of " + call, x.journal(entries, 5), answer);
    }

    /** A call that is no act leaves the MINUTES and what why() tells. */
    static void asked(MotionFloor x, String call, IntSupplier ask, int answer) {
        List<Integer> before = Due.all(x);
        int why = x.why();
        Due.due(call, ask.getAsInt(), answer);
        Due.due("why() behind " + call, x.why(), why);
        Due.due("nothing has changed behind " + call, Due.all(x).equals(before) ? 1 : 0, 1);
    }

    /** SEAT s moves THE DRAFT, which is not seconded then. */
    static void moveAlone(MotionFloor x, int s) {
        Due.due("floor(" + s + ") >= 0", x.floor(s) >= 0 ? 1 : 0, 1);
        Due.due("move(" + s + ") > 0", x.move(s) > 0 ? 1 : 0, 1);
    }

    /** A RECESS, which has no TEXT, is laid on each PLACE from the first one on, ahead of the last. */
    static void fillDesk(MotionFloor x, int first, int last) {
        for (int p = first; p < last; p++) {
            x.draft(8);
            Due.due("lay(" + p + ")", x.lay(p), p);
        }
    }

    /** 9 are PENDING, the TOP is of this KIND (3, or 6 .. 8). */
    static MotionFloor ninePending(int kindOfTop) {
        MotionFloor x = Due.sitting(4);
        Due.bring(x, 1, 1);
        Due.bring(x, 2, 2);
        Due.bring(x, 3, 3);
        Due.bring(x, 4, 4);
        Due.bring(x, 2, 5);
        Due.bring(x, 3, 6);
        Due.bring(x, 5, 7);
        Due.bring(x, 2, 8);
        Due.bring(x, kindOfTop);
        Due.due("count(6)", x.count(6), 9);
        return x;
    }

    /** A MAIN of so many words, 1 and on, is PENDING and seconded. */
    static MotionFloor mainOf(int words) {
        MotionFloor x = Due.sitting(4);
        x.draft(1);
        Due.fill(x, words, 1);
        Due.bring(x);
        Due.due("words of the MAIN", x.pending(0, 3), words);
        return x;
    }

    /** THE DRAFT with so many words, and a SPAN. */
    static void writeAmend(MotionFloor x, int kind, int a, int b, int words) {
        x.draft(kind);
        Due.fill(x, words, 1001);
        Due.due("span(" + a + ", " + b + ")", x.span(a, b), b - a);
    }
}
