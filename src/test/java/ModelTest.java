import java.util.ArrayList;
import java.util.List;
import java.util.Random;

/**
 * Runs of calls that are drawn, most of them in order, on a MotionFloor and on a PlainFloor, and all that can be asked
 * behind each. Each run can be had again by its number.
 */
public final class ModelTest {
    private static final int RUNS = 2000;
    private static final int ACTS = 300;
    private static final int[] WEIGHTS = {0, 8, 3, 1, 2, 2, 1, 15, 3, 14, 4, 12, 12, 24, 6, 20, 20, 20, 1, 2, 9, 1, 1};
    private static final int[] SPAN_ENDS = {0, 1, 2, 3, 4, 5, 6, 8, 400, 401, -1};

    private final int run;
    private final Random random;
    private MotionFloor x = new MotionFloor();
    private PlainFloor plain = new PlainFloor(1);
    private final PlainFloor[] images = new PlainFloor[2];
    private final List<int[]> row = new ArrayList<>();
    private final int[] done = new int[23];

    private ModelTest(int run) {
        this.run = run;
        this.random = new Random(run);
    }

    public static void main(String[] args) {
        int[] done = new int[23];
        int[] told = new int[6 * 10];
        int[] followed = new int[3];
        for (int run = 0; run < RUNS; run++) {
            ModelTest test = new ModelTest(run);
            test.play();
            for (int act = 0; act < done.length; act++) {
                done[act] += test.done[act];
            }
            for (int i = 0; i < followed.length; i++) {
                followed[i] += test.plain.followed[i];
            }
            for (int[] result : test.plain.results) {
                told[result[2] * 10 + result[1]]++;
            }
        }
        for (int act = 1; act < done.length; act++) {
            Due.due("act " + act + " was done often", done[act] >= 100 ? 1 : 0, 1);
        }
        for (int kind = 1; kind <= 8; kind++) {
            for (int result = 1; result <= 3; result++) {
                Due.due("kind " + kind + " was told " + result, told[result * 10 + kind] > 0 ? 1 : 0, 1);
            }
        }
        for (int i = 0; i < followed.length; i++) {
            Due.due("LAID ones have followed " + i, followed[i] >= 20 ? 1 : 0, 1);
        }
        Due.due("RULINGS were told", told[49] > 10 && told[59] > 10 ? 1 : 0, 1);
        Due.end();
    }

    private void due(String call, int got, int want) {
        if (got != want) {
            Due.due("run " + run + ", entry " + plain.minutes.size() + ": " + call, got, want);
        } else {
            Due.due(call, got, want);
        }
    }

    private void play() {
        int seats = random.nextInt(8) == 0 ? 1 + random.nextInt(200) : 3 + random.nextInt(4);
        x.seats(seats);
        plain = new PlainFloor(seats);
        for (int i = 0; i < ACTS; i++) {
            act();
            lookAround();
            if (random.nextInt(40) == 0) {
                elsewhere();
            }
        }
        lookAtAll();
        due("again()", x.again(), -1);
    }

    private void act() {
        int[] call = random.nextInt(4) > 0 ? natural() : draw();
        for (int tries = 0; tries < 12 && random.nextInt(10) > 0; tries++) {
            if (plain.refusal(call[0], call[1], call[2], call[3], call[4]) == 0) {
                break;
            }
            call = random.nextInt(2) > 0 ? natural() : draw();
        }
        int want = plain.act(call[0], call[1], call[2], call[3], call[4]);
        String name = "act " + call[0] + "(" + call[1] + ", " + call[2] + ", " + call[3] + ", " + call[4] + ")";
        due(name, callOf(call), want);
        due("why() behind " + name, x.why(), plain.why);
        done[call[0]] += want >= 0 ? 1 : 0;
    }

    private static int[] call(int... numbers) {
        int[] call = new int[5];
        System.arraycopy(numbers, 0, call, 0, numbers.length);
        return call;
    }

    /** What an assembly would most likely do next. */
    private int[] natural() {
        PlainFloor.Paper top = plain.top();
        if (plain.present.size() < plain.seats - 1 && plain.present.size() < 6) {
            return call(1, drawSeat());
        }
        if (!plain.present.contains(plain.chair)) {
            return call(4, drawSeat());
        }
        if (top != null && top.seconder < 0 && random.nextInt(5) > 0) {
            return call(top.kind == 9 ? 20 : 16, drawSeat());
        }
        int choice = random.nextInt(10);
        if (top != null && choice < 3 && top.votes.size() < 3) {
            return call(17, drawSeat(), random.nextInt(5) > 0 ? 1 : 0);
        }
        if (top != null && choice < 3 && top.votes.size() > 1) {
            return call(21);
        }
        if (plain.draft == null) {
            return choice < (run % 2 == 0 ? 4 : 6) ? call(14, random.nextInt(8)) : call(10, drawKind());
        }
        return furtherDraft(top, choice);
    }

    private int[] furtherDraft(PlainFloor.Paper top, int choice) {
        if (plain.draft instanceof PlainFloor.Paper) {
            PlainFloor.Paper paper = (PlainFloor.Paper) plain.draft;
            if (!paper.laid && paper.kind < 6 && paper.words.size() < (paper.kind < 4 ? 4 : 1) && choice > 4) {
                return call(12, drawWord(), random.nextInt(2) * drawWord(), random.nextInt(2) * drawWord(), 0);
            }
            boolean amends = paper.kind == 2 || paper.kind == 3;
            if (!paper.laid && amends && paper.b == 0 && top != null && choice > 2) {
                int words = top.words.size();
                int a = random.nextInt(words + 1);
                return call(11, a, a + random.nextInt(words + 1 - a));
            }
            if (amends && choice > 4 && !(paper.laid && paper.subject == top)) {
                return call(13, random.nextInt(8));
            }
        }
        return plain.speaker < 0 ? call(7, drawSeat()) : call(15, plain.speaker);
    }

    private int[] draw() {
        int sum = 0;
        for (int weight : WEIGHTS) {
            sum += weight;
        }
        int left = random.nextInt(sum);
        int act = 0;
        while (left >= WEIGHTS[act]) {
            left -= WEIGHTS[act];
            act++;
        }
        int seat = drawSeat();
        int[] call = {act, seat, 0, 0, 0};
        switch (act) {
            case 2:
                if (plain.present.size() * 2 > plain.seats || random.nextInt(4) == 0) {
                    break;
                }
                return draw();
            case 3:
                call[1] = random.nextInt(3) > 0 ? random.nextInt(4) : random.nextInt(203) - 1;
                break;
            case 5:
                call[1] = random.nextInt(10);
                call[2] = random.nextInt(5);
                break;
            case 6:
                call[1] = random.nextInt(3) > 0 ? random.nextInt(4) : random.nextInt(103) - 1;
                break;
            case 10:
                if (plain.draft != null && random.nextInt(4) > 0) {
                    return draw();
                }
                call[1] = random.nextInt(4) == 0 ? random.nextInt(10) : drawKind();
                break;
            case 11:
                call[1] = SPAN_ENDS[random.nextInt(SPAN_ENDS.length)];
                call[2] = SPAN_ENDS[random.nextInt(SPAN_ENDS.length)];
                if (plain.top() != null && random.nextInt(6) > 0) {
                    int words = plain.top().words.size();
                    call[1] = random.nextInt(words + 1);
                    call[2] = call[1] + random.nextInt(words + 1 - call[1]);
                }
                break;
            case 12:
                for (int i = 1; i <= 4; i++) {
                    call[i] = i == 1 || random.nextInt(3) > 0 ? drawWord() : 0;
                }
                break;
            case 13:
            case 14:
                call[1] = random.nextInt(10) - 1;
                break;
            case 17:
                call[2] = random.nextInt(12) == 0 ? random.nextInt(5) - 1 : random.nextInt(4) > 0 ? 1 : 0;
                break;
            case 18:
                call[1] = plain.top() == null ? seat : plain.top().mover;
                break;
            case 8:
            case 19:
            case 21:
            case 22:
                if (act == 22 && random.nextInt(4) > 0) {
                    return draw();
                }
                call[1] = 0;
                break;
            default:
                break;
        }
        if ((act == 9 || act == 15) && plain.speaker >= 0 && random.nextInt(8) > 0) {
            call[1] = plain.speaker;
        }
        return call;
    }

    private int drawSeat() {
        if (random.nextInt(30) == 0) {
            return plain.seats - random.nextInt(2);
        }
        return random.nextInt(30) == 0 ? -1 : random.nextInt(plain.seats);
    }

    private int drawWord() {
        int[] odd = {30000, 30001, -1, 0};
        return random.nextInt(20) == 0 ? odd[random.nextInt(4)] : 1 + random.nextInt(30000);
    }

    /** A KIND that would be in order, often. */
    private int drawKind() {
        int top = plain.top() == null ? 0 : plain.top().kind;
        if (top == 0) {
            return 1;
        }
        boolean ofTexts = run % 2 == 0;
        if ((ofTexts ? random.nextInt(12) > 0 : random.nextInt(2) > 0) && (top == 1 || top == 4 || top == 5)) {
            return 2;
        }
        if (random.nextInt(2) == 0 && top == 2) {
            return 3;
        }
        return ofTexts && random.nextInt(3) > 0 ? 7 : 4 + random.nextInt(5);
    }

    private int callOf(int[] call) {
        switch (call[0]) {
            case 1: return x.there(call[1]);
            case 2: return x.gone(call[1]);
            case 3: return x.quorum(call[1]);
            case 4: return x.chair(call[1]);
            case 5: return x.majority(call[1], call[2]);
            case 6: return x.limit(call[1]);
            case 7: return x.floor(call[1]);
            case 8: return x.cede();
            case 9: return x.debate(call[1]);
            case 10: return x.draft(call[1]);
            case 11: return x.span(call[1], call[2]);
            case 12: return x.word(call[1], call[2], call[3], call[4]);
            case 13: return x.lay(call[1]);
            case 14: return x.take(call[1]);
            case 15: return x.move(call[1]);
            case 16: return x.second(call[1]);
            case 17: return x.vote(call[1], call[2]);
            case 18: return x.withdraw(call[1]);
            case 19: return x.rule();
            case 20: return x.appeal(call[1]);
            case 21: return x.told();
            default: return x.adjourn();
        }
    }

    private void lookAround() {
        for (int what = -1; what < 12; what++) {
            due("count(" + what + ")", x.count(what), plain.count(what));
        }
        for (int i = -1; i < 10; i++) {
            for (int what = -1; what < 11; what++) {
                due("pending(" + i + ", " + what + ")", x.pending(i, what), plain.pending(i, what));
            }
        }
        for (int p = -1; p < 9; p++) {
            for (int what = -1; what < 7; what++) {
                due("desk(" + p + ", " + what + ")", x.desk(p, what), plain.desk(p, what));
            }
            int i = random.nextInt(12) - 1;
            due("lying(" + p + ", " + i + ")", x.lying(p, i), plain.lying(p, i));
        }
        for (int m = -2; m < 11; m++) {
            int i = random.nextInt(12) - 1;
            due("text(" + m + ", " + i + ")", x.text(m, i), plain.text(m, i));
        }
        int s = drawSeat();
        due("seat(" + s + ")", x.seat(s), plain.seat0(s));
        due("ballot(" + s + ")", x.ballot(s), plain.ballot(s));
        int last = plain.results.size() - 1;
        for (int what = -1; what < 6; what++) {
            due("result(" + last + ", " + what + ")", x.result(last, what), plain.result(last, what));
        }
        if (random.nextInt(3) == 0) {
            s = drawSeat();
            due("order(" + s + ")", x.order(s), plain.order(s));
            due("why() behind order()", x.why(), plain.why);
        }
    }

    private void lookAtAll() {
        for (int i = -1; i <= plain.minutes.size(); i++) {
            for (int what = -1; what < 8; what++) {
                due("journal(" + i + ", " + what + ")", x.journal(i, what), plain.journal(i, what));
            }
        }
        for (int i = -1; i <= plain.results.size(); i++) {
            for (int what = -1; what < 6; what++) {
                due("result(" + i + ", " + what + ")", x.result(i, what), plain.result(i, what));
            }
        }
        for (int m = -2; m < 11; m++) {
            for (int i = -1; i <= 401; i++) {
                due("text(" + m + ", " + i + ")", x.text(m, i), plain.text(m, i));
            }
        }
        for (int s = -1; s <= plain.seats; s++) {
            due("seat(" + s + ")", x.seat(s), plain.seat0(s));
            due("ballot(" + s + ")", x.ballot(s), plain.ballot(s));
        }
    }

    /** What is no act. */
    private void elsewhere() {
        int k = random.nextInt(2);
        switch (random.nextInt(6)) {
            case 0:
                due("image(" + k + ")", x.image(k), plain.minutes.size());
                images[k] = PlainFloor.done(plain.seats, plain.minutes);
                break;
            case 1:
                if (images[k] != null) {
                    plain = PlainFloor.done(images[k].seats, images[k].minutes);
                    due("back(" + k + ")", x.back(k), plain.minutes.size());
                    due("why() behind back()", x.why(), 0);
                } else {
                    due("back(" + k + ")", x.back(k), -11);
                }
                break;
            case 2:
                due("again()", x.again(), -1);
                break;
            case 3:
                before();
                break;
            case 4:
                check();
                break;
            default:
                if (random.nextInt(6) == 0) {
                    int seats = 2 + random.nextInt(5);
                    due("seats(" + seats + ")", x.seats(seats), seats);
                    plain = new PlainFloor(seats);
                }
        }
        due("why() behind what is no act", x.why(), plain.why);
    }

    private void before() {
        int e = random.nextInt(plain.minutes.size() + 1);
        PlainFloor then = PlainFloor.done(plain.seats, plain.minutes.subList(0, e));
        for (int m = -1; m < 10; m++) {
            int i = random.nextInt(6);
            due("before(" + e + ", " + m + ", " + i + ")", x.before(e, m, i), then.text(m, i));
        }
        due("before() beyond", x.before(plain.minutes.size() + 1, -1, 0), -1);
    }

    /** The MINUTES as THE ROW, with one entry told otherwise. */
    private void check() {
        due("strike()", x.strike(), row.size());
        row.clear();
        int wrong = random.nextInt(plain.minutes.size() + 1);
        for (int i = 0; i < plain.minutes.size(); i++) {
            int[] e = plain.minutes.get(i).clone();
            if (i == wrong) {
                e[5]++;
            }
            row.add(e);
            due("tell()", x.tell(e[0], e[1], e[2], e[3], e[4], e[5]), row.size());
        }
        due("count(12)", x.count(12), row.size());
        due("check()", x.check(), wrong < plain.minutes.size() ? wrong : -1);
    }
}
