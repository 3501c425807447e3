import java.util.ArrayList;
import java.util.List;

/** Counts and prints the answers that are not due, and sets the scenes that many tests begin with. */
final class Due {
    private static int wrong;
    private static int asked;

    private Due() {
    }

    static void due(String call, int got, int want) {
        asked++;
        if (got != want) {
            wrong++;
            System.out.println(call + " answered " + got + ", due is " + want);
        }
    }

    static void end() {
        System.out.println(asked + " answers, " + wrong + " not as due");
        if (wrong > 0) {
            System.exit(1);
        }
    }

    /** n SEATS, all THERE, with SEAT 0 as the CHAIR: n + 1 ENTRIES. */
    static MotionFloor sitting(int n) {
        MotionFloor x = new MotionFloor();
        x.seats(n);
        for (int s = 0; s < n; s++) {
            x.there(s);
        }
        x.chair(0);
        return x;
    }

    /** THE DRAFT with these words. */
    static void write(MotionFloor x, int kind, int... words) {
        x.draft(kind);
        for (int word : words) {
            x.word(word, 0, 0, 0);
        }
    }

    /** THE DRAFT with so many words, each first and then one more. */
    static void fill(MotionFloor x, int words, int first) {
        int word = first;
        while (word + 3 < first + words) {
            x.word(word, word + 1, word + 2, word + 3);
            word += 4;
        }
        for (; word < first + words; word++) {
            x.word(word, 0, 0, 0);
        }
    }

    /** SEAT 1 moves THE DRAFT, SEAT 2 seconds it. */
    static void bring(MotionFloor x) {
        due("floor(1) >= 0", x.floor(1) >= 0 ? 1 : 0, 1);
        due("move(1) > 0", x.move(1) > 0 ? 1 : 0, 1);
        due("second(2)", x.second(2), 1);
    }

    static void bring(MotionFloor x, int kind, int... words) {
        write(x, kind, words);
        bring(x);
    }

    static void bringAmend(MotionFloor x, int kind, int a, int b, int... words) {
        write(x, kind, words);
        x.span(a, b);
        bring(x);
    }

    static void layAmend(MotionFloor x, int p, int kind, int a, int b, int... words) {
        write(x, kind, words);
        x.span(a, b);
        due("lay", x.lay(p), p);
    }

    /** SEATS 1 and 2 vote yes, and it is CARRIED. */
    static void carry(MotionFloor x) {
        x.vote(1, 1);
        x.vote(2, 1);
        due("told()", x.told(), 1);
    }

    /** SEATS 1 and 2 vote no, and it is LOST. */
    static void lose(MotionFloor x) {
        x.vote(1, 0);
        x.vote(2, 0);
        due("told()", x.told(), 2);
    }

    /** The TEXT m of text() is just these words. */
    static void dueText(MotionFloor x, int m, int... words) {
        for (int i = 0; i < words.length; i++) {
            due("text(" + m + ", " + i + ")", x.text(m, i), words[i]);
        }
        due("text(" + m + ", " + words.length + ")", x.text(m, words.length), -1);
        due("text(" + m + ", -1)", x.text(m, -1), -1);
    }

    /** What lies on PLACE p, by desk(p, 0 .. 5). */
    static void dueDesk(MotionFloor x, int p, int... facts) {
        for (int what = 0; what < facts.length; what++) {
            due("desk(" + p + ", " + what + ")", x.desk(p, what), facts[what]);
        }
    }

    /** PENDING motion i, by pending(i, 0 .. 9). */
    static void duePending(MotionFloor x, int i, int... facts) {
        for (int what = 0; what < facts.length; what++) {
            due("pending(" + i + ", " + what + ")", x.pending(i, what), facts[what]);
        }
    }

    static void dueResult(MotionFloor x, int i, int... facts) {
        for (int what = 0; what < facts.length; what++) {
            due("result(" + i + ", " + what + ")", x.result(i, what), facts[what]);
        }
    }

    static void dueEntry(MotionFloor x, int i, int... facts) {
        for (int what = 0; what < facts.length; what++) {
            due("journal(" + i + ", " + what + ")", x.journal(i, what), facts[what]);
        }
    }

    /** All that can be asked of what there is, but again() and before(). */
    static List<Integer> all(MotionFloor x) {
        List<Integer> all = new ArrayList<>();
        for (int what = 0; what < 12; what++) {
            all.add(x.count(what));
        }
        for (int i = 0; i < 9; i++) {
            for (int what = 0; what < 10; what++) {
                all.add(x.pending(i, what));
            }
        }
        for (int p = 0; p < 8; p++) {
            for (int what = 0; what < 6; what++) {
                all.add(x.desk(p, what));
            }
            for (int i = 0; i < 12; i++) {
                all.add(x.lying(p, i));
            }
        }
        for (int m = -1; m < 10; m++) {
            for (int i = 0; i < 12; i++) {
                all.add(x.text(m, i));
            }
        }
        for (int s = 0; s < 12; s++) {
            all.add(x.seat(s));
            all.add(x.ballot(s));
        }
        for (int i = 0; i < x.count(8); i++) {
            for (int what = 0; what < 6; what++) {
                all.add(x.journal(i, what));
                all.add(x.result(i, what));
            }
        }
        return all;
    }
}
