import java.util.Random;

/** No call throws, whatever its numbers are; and one that is refused changes nothing that can be asked. */
public final class ExtremesTest {
    private static final int RUNS = 400;
    private static final int CALLS = 512;
    private static final int[] NUMBERS = {
        Integer.MIN_VALUE, Integer.MIN_VALUE + 1, -400, -9, -2, -1, 0, 0, 0, 1, 1, 1, 2, 2, 2, 3, 3, 4, 5, 6, 7, 8, 9, 10,
        11, 12, 22, 23, 99, 100, 199, 200, 201, 399, 400, 401, 599, 600, 30000, 30001, Integer.MAX_VALUE - 1,
        Integer.MAX_VALUE
    };

    public static void main(String[] args) {
        for (int run = 0; run < RUNS; run++) {
            play(new Random(run), run % 4 == 0 ? new MotionFloor() : Due.sitting(4));
        }
        Due.end();
    }

    private static void play(Random random, MotionFloor x) {
        for (int i = 0; i < CALLS; i++) {
            int[] n = new int[6];
            for (int j = 0; j < n.length; j++) {
                n[j] = NUMBERS[random.nextInt(NUMBERS.length)];
            }
            int call = 1 + random.nextInt(42);
            if (call == 2 && random.nextInt(20) > 0) {
                call = 12;
            }
            int entries = x.count(8);
            int pending = x.count(6);
            int draft = x.count(7);
            int answer = call <= 24 ? act(x, call, n) : ask(x, call, n);
            if (call > 2 && call <= 24) {
                Due.due("ENTRIES behind " + call, x.count(8), answer < 0 ? entries : entries + 1);
                Due.due("why() behind " + call, x.why(), answer < 0 ? -answer : 0);
                Due.due("a REASON of " + call, answer < -11 ? 0 : 1, 1);
            }
            if (call <= 24 && answer < 0) {
                Due.due("PENDING behind " + call, x.count(6), pending);
                Due.due("THE DRAFT behind " + call, x.count(7), draft);
            }
        }
        Due.due("again()", x.again(), -1);
    }

    /** The acts by their promises. */
    private static int act(MotionFloor x, int promise, int[] n) {
        switch (promise) {
            case 2: return x.seats(n[0]);
            case 3: return x.there(n[0]);
            case 4: return x.gone(n[0]);
            case 5: return x.quorum(n[0]);
            case 6: return x.chair(n[0]);
            case 7: return x.majority(n[0], n[1]);
            case 8: return x.limit(n[0]);
            case 9: return x.floor(n[0]);
            case 10: return x.cede();
            case 11: return x.debate(n[0]);
            case 12: return x.draft(n[0]);
            case 13: return x.span(n[0], n[1]);
            case 14: return x.word(n[0], n[1], n[2], n[3]);
            case 15: return x.lay(n[0]);
            case 16: return x.take(n[0]);
            case 17: return x.move(n[0]);
            case 18: return x.second(n[0]);
            case 19: return x.vote(n[0], n[1]);
            case 20: return x.withdraw(n[0]);
            case 21: return x.rule();
            case 22: return x.appeal(n[0]);
            case 23: return x.told();
            case 24: return x.adjourn();
            default: return 0;
        }
    }

    private static int ask(MotionFloor x, int promise, int[] n) {
        switch (promise) {
            case 25: return x.order(n[0]);
            case 26: return x.why();
            case 27: return x.pending(n[0], n[1]);
            case 28: return x.text(n[0], n[1]);
            case 29: return x.ballot(n[0]);
            case 30: return x.desk(n[0], n[1]);
            case 31: return x.lying(n[0], n[1]);
            case 32: return x.result(n[0], n[1]);
            case 33: return x.count(n[0]);
            case 34: return x.seat(n[0]);
            case 35: return x.journal(n[0], n[1]);
            case 36: return x.before(n[0], n[1], n[2]);
            case 37: return x.again();
            case 38: return x.tell(n[0], n[1], n[2], n[3], n[4], n[5]);
            case 39: return x.check();
            case 40: return x.strike();
            case 41: return x.image(n[0]);
            default: return x.back(n[0]);
        }
    }
}
