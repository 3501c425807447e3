import java.util.Arrays;

/** A floor on which an assembly can do just what is in order; ../shared/DOC.md says what each call answers. */
public final class MotionFloor {
    public static final int NONE = -1;

    private static final int MOST_SEATS = 200;
    private static final int MOST_QUORUM = 200;
    private static final int MOST_LIMIT = 99;
    private static final int MOST_WORDS = 400;
    private static final int HIGHEST_WORD = 30000;
    private static final int MOST_PENDING = 9;
    private static final int MOST_ENTRIES = 600;
    private static final int PLACES = 8;
    private static final int SORTS_OF_MAJORITY = 3;

    private static final int MAIN = 1;
    private static final int AMEND = 2;
    private static final int SECOND = 3;
    private static final int COMMIT = 4;
    private static final int POSTPONE = 5;
    private static final int CLOSE = 6;
    private static final int TABLE = 7;
    private static final int RECESS = 8;
    private static final int RULING = 9;

    private static final int RANK = 1;
    private static final int FLOOR = 2;
    private static final int SECONDED = 3;
    private static final int QUORUM = 4;
    private static final int SPAN = 5;
    private static final int CLOSED = 6;
    private static final int PENDING = 7;
    private static final int THERE = 8;
    private static final int RANGE = 9;
    private static final int ROOM = 10;
    private static final int STATE = 11;

    private static final int CARRIED = 1;
    private static final int LOST = 2;
    private static final int NOT_SECONDED = 3;
    private static final int STANDS = 4;
    private static final int OVERTURNED = 5;

    private static final int NOTHING = 0;
    private static final int LETTER = 1;
    private static final int MOTION = 2;
    private static final int TABLED = 3;

    private static final int ACT_THERE = 1;
    private static final int ACT_GONE = 2;
    private static final int ACT_QUORUM = 3;
    private static final int ACT_CHAIR = 4;
    private static final int ACT_MAJORITY = 5;
    private static final int ACT_LIMIT = 6;
    private static final int ACT_FLOOR = 7;
    private static final int ACT_CEDE = 8;
    private static final int ACT_DEBATE = 9;
    private static final int ACT_DRAFT = 10;
    private static final int ACT_SPAN = 11;
    private static final int ACT_WORD = 12;
    private static final int ACT_LAY = 13;
    private static final int ACT_TAKE = 14;
    private static final int ACT_MOVE = 15;
    private static final int ACT_SECOND = 16;
    private static final int ACT_VOTE = 17;
    private static final int ACT_WITHDRAW = 18;
    private static final int ACT_RULE = 19;
    private static final int ACT_APPEAL = 20;
    private static final int ACT_TOLD = 21;
    private static final int ACT_ADJOURN = 22;

    /** How many numbers each act has; there is no act 0. */
    private static final int[] NUMBERS_OF_ACT = {
        0, 1, 1, 1, 1, 2, 1, 1, 0, 1, 1, 2, 4, 1, 1, 1, 1, 2, 1, 0, 1, 0, 0
    };

    /** Columns of the MINUTES and of THE ROW: the act, its four numbers, its answer. */
    private static final int ANSWER = 5;
    private static final int ROW_COLUMNS = 6;
    /** The MINUTES keep one more, for again(): how many were PENDING behind the ENTRY. */
    private static final int PENDING_BEHIND = 6;
    private static final int MINUTES_COLUMNS = 7;
    private static final int RESULT_COLUMNS = 5;

    private static final int MAJORITY_OF_CLOSE = 2;
    /** For text(): no PENDING motion has this index, so it means THE DRAFT. */
    private static final int DRAFT_INDEX = 9;

    private final Assembly now = new Assembly();
    /** Where entries are done again; one for all calls, as the room for objects is small. */
    private final Assembly trial = new Assembly();
    /** The images, null before they are kept. */
    private Assembly firstImage;
    private Assembly secondImage;
    private final Ledger row = new Ledger(ROW_COLUMNS, MOST_ENTRIES);

    public MotionFloor() {
    }

    public int seats(int n) {
        if (n < 1 || n > MOST_SEATS) {
            return -RANGE;
        }
        now.begin(n);
        return n;
    }

    public int there(int s) {
        return now.enact(ACT_THERE, s, 0, 0, 0);
    }

    public int gone(int s) {
        return now.enact(ACT_GONE, s, 0, 0, 0);
    }

    public int quorum(int q) {
        return now.enact(ACT_QUORUM, q, 0, 0, 0);
    }

    public int chair(int s) {
        return now.enact(ACT_CHAIR, s, 0, 0, 0);
    }

    public int majority(int kind, int sort) {
        return now.enact(ACT_MAJORITY, kind, sort, 0, 0);
    }

    public int limit(int n) {
        return now.enact(ACT_LIMIT, n, 0, 0, 0);
    }

    public int floor(int s) {
        return now.enact(ACT_FLOOR, s, 0, 0, 0);
    }

    public int cede() {
        return now.enact(ACT_CEDE, 0, 0, 0, 0);
    }

    public int debate(int s) {
        return now.enact(ACT_DEBATE, s, 0, 0, 0);
    }

    public int draft(int kind) {
        return now.enact(ACT_DRAFT, kind, 0, 0, 0);
    }

    public int span(int a, int b) {
        return now.enact(ACT_SPAN, a, b, 0, 0);
    }

    public int word(int a, int b, int c, int d) {
        return now.enact(ACT_WORD, a, b, c, d);
    }

    public int lay(int p) {
        return now.enact(ACT_LAY, p, 0, 0, 0);
    }

    public int take(int p) {
        return now.enact(ACT_TAKE, p, 0, 0, 0);
    }

    public int move(int s) {
        return now.enact(ACT_MOVE, s, 0, 0, 0);
    }

    public int second(int s) {
        return now.enact(ACT_SECOND, s, 0, 0, 0);
    }

    public int vote(int s, int how) {
        return now.enact(ACT_VOTE, s, how, 0, 0);
    }

    public int withdraw(int s) {
        return now.enact(ACT_WITHDRAW, s, 0, 0, 0);
    }

    public int rule() {
        return now.enact(ACT_RULE, 0, 0, 0, 0);
    }

    public int appeal(int s) {
        return now.enact(ACT_APPEAL, s, 0, 0, 0);
    }

    public int told() {
        return now.enact(ACT_TOLD, 0, 0, 0, 0);
    }

    public int adjourn() {
        return now.enact(ACT_ADJOURN, 0, 0, 0, 0);
    }

    public int order(int s) {
        now.reason = Rules.against(now, ACT_MOVE, s, 0, 0, 0);
        return now.reason == 0 ? 1 : 0;
    }

    public int why() {
        return now.reason;
    }

    public int pending(int i, int what) {
        Motion motion = now.pending.at(i);
        return motion == null ? NONE : motion.fact(what);
    }

    public int text(int m, int i) {
        return now.wordOf(m, i);
    }

    public int ballot(int s) {
        Motion top = now.pending.top();
        return top == null ? NONE : top.voteOf(s);
    }

    public int desk(int p, int what) {
        Place place = now.placeAt(p);
        return place == null ? NONE : place.fact(what);
    }

    public int lying(int p, int i) {
        Place place = now.placeAt(p);
        return place == null ? NONE : place.wordAt(i);
    }

    public int result(int i, int what) {
        return now.results.at(i, what);
    }

    public int count(int what) {
        switch (what) {
            case 0: return now.house.seats;
            case 1: return now.house.present;
            case 2: return now.house.chair;
            case 3: return now.house.quorum;
            case 4: return now.house.limit;
            case 5: return now.house.speaker;
            case 6: return now.pending.size;
            case 7: return now.draft.kind();
            case 8: return now.minutes.size;
            case 9: return now.results.size;
            case 10: return now.adoptions == 0 ? NONE : now.adopted.size;
            case 11: return now.adoptions;
            case 12: return row.size;
            default: return NONE;
        }
    }

    public int seat(int s) {
        if (!now.house.has(s)) {
            return NONE;
        }
        return now.house.isThere(s) ? 1 : 0;
    }

    public int journal(int i, int what) {
        return what > ANSWER ? NONE : now.minutes.at(i, what);
    }

    public int before(int e, int m, int i) {
        if (e < 0 || e > now.minutes.size) {
            return NONE;
        }
        Ledger minutes = now.minutes;
        trial.begin(now.house.seats);
        for (int k = 0; k < e; k++) {
            trial.enact(minutes.at(k, 0), minutes.at(k, 1), minutes.at(k, 2), minutes.at(k, 3), minutes.at(k, 4));
        }
        return trial.wordOf(m, i);
    }

    public int again() {
        Ledger minutes = now.minutes;
        trial.begin(now.house.seats);
        for (int k = 0; k < minutes.size; k++) {
            int answer = trial.enact(
                minutes.at(k, 0), minutes.at(k, 1), minutes.at(k, 2), minutes.at(k, 3), minutes.at(k, 4));
            if (answer != minutes.at(k, ANSWER) || trial.pending.size != minutes.at(k, PENDING_BEHIND)) {
                return k;
            }
        }
        return NONE;
    }

    public int tell(int act, int a, int b, int c, int d, int answer) {
        if (row.isFull()) {
            return -ROOM;
        }
        row.open();
        row.write(0, act);
        row.write(1, a);
        row.write(2, b);
        row.write(3, c);
        row.write(4, d);
        row.write(ANSWER, answer);
        return row.size;
    }

    public int check() {
        trial.begin(now.house.seats);
        for (int k = 0; k < row.size; k++) {
            int due = row.at(k, ANSWER);
            if (due < 0 || !canBeDone(k)) {
                return k;
            }
            int answer = trial.enact(row.at(k, 0), row.at(k, 1), row.at(k, 2), row.at(k, 3), row.at(k, 4));
            if (answer != due) {
                return k;
            }
        }
        return NONE;
    }

    public int strike() {
        int had = row.size;
        row.size = 0;
        return had;
    }

    public int image(int k) {
        if (k == 0) {
            firstImage = imageOfNow(firstImage);
        } else if (k == 1) {
            secondImage = imageOfNow(secondImage);
        } else {
            return -RANGE;
        }
        return now.minutes.size;
    }

    public int back(int k) {
        if (k < 0 || k > 1) {
            return -RANGE;
        }
        Assembly kept = k == 0 ? firstImage : secondImage;
        if (kept == null) {
            return -STATE;
        }
        now.become(kept);
        return now.minutes.size;
    }

    /** What there is, in place of an older image where there is one. */
    private Assembly imageOfNow(Assembly older) {
        Assembly kept = older == null ? new Assembly() : older;
        kept.become(now);
        return kept;
    }

    /** Whether entry k of THE ROW names an act and has no number where that act has none. */
    private boolean canBeDone(int k) {
        int act = row.at(k, 0);
        if (act < 1 || act >= NUMBERS_OF_ACT.length) {
            return false;
        }
        for (int column = NUMBERS_OF_ACT[act] + 1; column < ANSWER; column++) {
            if (row.at(k, column) != 0) {
                return false;
            }
        }
        return true;
    }

    /** A row of words. */
    private static final class Text {
        final int[] words = new int[MOST_WORDS];
        int size;

        int wordAt(int i) {
            return i < 0 || i >= size || i >= words.length ? NONE : words[i];
        }

        void append(int word) {
            if (word != 0 && size < words.length) {
                words[size] = word;
                size++;
            }
        }

        void become(Text other) {
            size = Math.max(0, Math.min(other.size, words.length));
            System.arraycopy(other.words, 0, words, 0, size);
        }

        /** How many words there would be with so many in place of the SPAN. */
        int sizeWith(int from, int to, int words) {
            return size - (to - from) + words;
        }

        void replace(int from, int to, Text other) {
            int grown = sizeWith(from, to, other.size);
            if (from < 0 || to < from || to > size || grown > words.length) {
                return;
            }
            System.arraycopy(words, to, words, from + other.size, size - to);
            System.arraycopy(other.words, 0, words, from, other.size);
            size = grown;
        }
    }

    private static final class Motion {
        /** Given as it is moved, so that a LAID one knows its SUBJECT again when that comes back from a TABLED row. */
        int name;
        int subject;
        int kind;
        int mover;
        int seconder;
        int floors;
        int speeches;
        boolean closed;
        int from;
        int to;
        boolean laid;
        boolean outOfOrder;
        final Text text = new Text();
        /** For each SEAT 0, or one more than how it has voted. */
        final byte[] votes = new byte[MOST_SEATS];
        int voters;
        /** The next spare one, while nothing is made of this one. */
        Motion nextSpare;

        void renew(int newKind) {
            keepTextAs(newKind);
            text.size = 0;
        }

        /** All but its TEXT is as of a new one. */
        void keepTextAs(int newKind) {
            name = 0;
            subject = 0;
            kind = newKind;
            mover = NONE;
            seconder = NONE;
            floors = 0;
            speeches = 0;
            closed = false;
            from = 0;
            to = 0;
            laid = false;
            outOfOrder = false;
            if (voters > 0) {
                Arrays.fill(votes, (byte) 0);
                voters = 0;
            }
        }

        void become(Motion other) {
            name = other.name;
            subject = other.subject;
            kind = other.kind;
            mover = other.mover;
            seconder = other.seconder;
            floors = other.floors;
            speeches = other.speeches;
            closed = other.closed;
            from = other.from;
            to = other.to;
            laid = other.laid;
            outOfOrder = other.outOfOrder;
            text.become(other.text);
            System.arraycopy(other.votes, 0, votes, 0, votes.length);
            voters = other.voters;
        }

        boolean amends() {
            return kind == AMEND || kind == SECOND;
        }

        /** Whether it sends something to THE DESK when it is carried. */
        boolean needsPlace() {
            return kind == COMMIT || kind == POSTPONE || kind == TABLE;
        }

        boolean canBeAbout(Motion other) {
            if (other == null) {
                return false;
            }
            if (kind == SECOND) {
                return other.kind == AMEND;
            }
            return kind == AMEND && (other.kind == MAIN || other.kind == COMMIT || other.kind == POSTPONE);
        }

        int voteOf(int s) {
            return s < 0 || s >= votes.length ? NONE : votes[s] - 1;
        }

        int castVote(int s, int how) {
            if (s >= 0 && s < votes.length) {
                int had = votes[s] == 0 ? 0 : 1;
                int has = how == 2 ? 0 : 1;
                votes[s] = (byte) (how == 2 ? 0 : how + 1);
                voters += has - had;
            }
            return voters;
        }

        /** Its SPAN when m words come in place of the places a .. b of its SUBJECT's TEXT. */
        void follow(int a, int b, int m) {
            if (to <= a) {
                return;
            }
            if (from >= b) {
                from += m - (b - a);
                to += m - (b - a);
            } else {
                outOfOrder = true;
            }
        }

        int fact(int what) {
            switch (what) {
                case 0: return kind;
                case 1: return mover;
                case 2: return seconder;
                case 3: return text.size;
                case 4: return from;
                case 5: return to;
                case 6: return floors;
                case 7: return speeches;
                case 8: return closed ? 1 : 0;
                case 9: return voters;
                default: return NONE;
            }
        }
    }

    /** Motions one on the other, from the lowest on. */
    private static final class Pile {
        final Motion[] motions = new Motion[MOST_PENDING];
        int size;

        Motion at(int i) {
            return i < 0 || i >= size || i >= motions.length ? null : motions[i];
        }

        Motion top() {
            return at(size - 1);
        }

        void put(Motion motion) {
            if (motion != null && size < motions.length) {
                motions[size] = motion;
                size++;
            }
        }

        Motion pull() {
            if (size < 1 || size > motions.length) {
                return null;
            }
            size--;
            Motion motion = motions[size];
            motions[size] = null;
            return motion;
        }

        void pourInto(Pile other) {
            for (int i = 0; i < size && i < motions.length; i++) {
                other.put(motions[i]);
                motions[i] = null;
            }
            size = 0;
        }

        int highestRank() {
            int highest = 0;
            for (int i = 0; i < size; i++) {
                Motion motion = at(i);
                if (motion != null) {
                    highest = Math.max(highest, motion.kind);
                }
            }
            return highest;
        }

        boolean needsPlace() {
            for (int i = 0; i < size; i++) {
                Motion motion = at(i);
                if (motion != null && motion.needsPlace()) {
                    return true;
                }
            }
            return false;
        }
    }

    /** A PLACE of THE DESK, or where THE DRAFT is. */
    private static final class Place {
        int sort = NOTHING;
        final Pile pile = new Pile();

        boolean isEmpty() {
            return sort == NOTHING;
        }

        /** The motion that is here, but for a LETTER or a TABLED row. */
        Motion motion() {
            return sort == MOTION ? pile.at(0) : null;
        }

        int kind() {
            Motion lowest = pile.at(0);
            if (sort == TABLED) {
                return TABLE;
            }
            return lowest == null ? 0 : lowest.kind;
        }

        int wordAt(int i) {
            Motion lowest = pile.at(0);
            return lowest == null ? NONE : lowest.text.wordAt(i);
        }

        void hold(int newSort, Motion motion) {
            sort = newSort;
            pile.put(motion);
        }

        void takeFrom(Place other) {
            sort = other.sort;
            other.pile.pourInto(pile);
            other.sort = NOTHING;
        }

        int fact(int what) {
            Motion lowest = pile.at(0);
            Motion motion = motion();
            switch (what) {
                case 0: return sort;
                case 1: return sort == TABLED ? pile.size : kind();
                case 2: return lowest == null ? 0 : lowest.text.size;
                case 3: return motion == null ? 0 : motion.from;
                case 4: return motion == null ? 0 : motion.to;
                case 5: return motion != null && motion.outOfOrder ? 1 : 0;
                default: return NONE;
            }
        }
    }

    /** The SEATS, and what holds for all motions. */
    private static final class House {
        int seats;
        final boolean[] there = new boolean[MOST_SEATS];
        int present;
        int chair;
        int quorum;
        int limit;
        int speaker;
        /** By KIND, 1 .. 8. */
        final int[] majorities = new int[RULING];

        void begin(int n) {
            seats = n;
            quorum = 0;
            limit = 0;
            chair = NONE;
            empty();
            Arrays.fill(majorities, 1);
            majorities[CLOSE] = MAJORITY_OF_CLOSE;
        }

        void become(House other) {
            seats = other.seats;
            for (int s = 0; s < there.length; s++) {
                there[s] = other.there[s];
            }
            present = other.present;
            chair = other.chair;
            quorum = other.quorum;
            limit = other.limit;
            speaker = other.speaker;
            System.arraycopy(other.majorities, 0, majorities, 0, majorities.length);
        }

        boolean has(int s) {
            return s >= 0 && s < seats && s < there.length;
        }

        boolean isThere(int s) {
            return s >= 0 && s < seats && s < there.length && there[s];
        }

        boolean hasFloor(int s) {
            return s != NONE && s == speaker;
        }

        boolean hasQuorum() {
            return present >= quorum;
        }

        int arrive(int s) {
            if (has(s) && !there[s]) {
                there[s] = true;
                present++;
            }
            return present;
        }

        int leave(int s) {
            if (isThere(s)) {
                there[s] = false;
                present--;
            }
            silence(s);
            return present;
        }

        int takeChair(int s) {
            chair = s;
            silence(s);
            return s;
        }

        void silence(int s) {
            if (hasFloor(s)) {
                speaker = NONE;
            }
        }

        void empty() {
            for (int s = 0; s < there.length; s++) {
                there[s] = false;
            }
            present = 0;
            speaker = NONE;
        }

        int replaceMajority(int kind, int sort) {
            if (kind < 1 || kind >= majorities.length) {
                return 0;
            }
            int was = majorities[kind];
            majorities[kind] = sort;
            return was;
        }

        /** The VOTES of SEATS that are THERE. */
        int tally(Motion motion, int how) {
            int sum = 0;
            for (int s = 0; s < seats; s++) {
                if (isThere(s) && motion.voteOf(s) == how) {
                    sum++;
                }
            }
            return sum;
        }

        boolean isMajority(int kind, int yes, int no) {
            int sort = kind < 1 || kind >= majorities.length ? 1 : majorities[kind];
            if (sort == 1) {
                return yes > no;
            }
            if (sort == 2) {
                return yes > 0 && 3 * yes >= 2 * (yes + no);
            }
            return 2 * yes > seats;
        }
    }

    /** Rows of as many numbers each, up to a bound; it grows as it is filled, for most objects need few. */
    private static final class Ledger {
        private static final int FIRST_ROWS = 16;
        final int columns;
        final int most;
        int[] cells;
        int size;

        Ledger(int columns, int most) {
            this.columns = Math.max(columns, 1);
            this.most = Math.max(most, FIRST_ROWS);
            this.cells = new int[this.columns * FIRST_ROWS];
        }

        boolean isFull() {
            return size >= most;
        }

        int at(int i, int column) {
            if (i < 0 || i >= size || column < 0 || column >= columns) {
                return NONE;
            }
            int index = i * columns + column;
            return index < 0 || index >= cells.length ? NONE : cells[index];
        }

        /** One more row, behind which write() writes. */
        void open() {
            if (!isFull()) {
                size++;
                makeRoom(size);
            }
        }

        void write(int column, int value) {
            int index = (size - 1) * columns + column;
            if (column >= 0 && column < columns && index >= 0 && index < cells.length) {
                cells[index] = value;
            }
        }

        void become(Ledger other) {
            int rows = Math.min(other.size, most);
            makeRoom(rows);
            if (rows * columns <= cells.length && rows * columns <= other.cells.length) {
                System.arraycopy(other.cells, 0, cells, 0, rows * columns);
            }
            size = rows;
        }

        void makeRoom(int rows) {
            int needed = rows * columns;
            if (needed > cells.length) {
                cells = Arrays.copyOf(cells, Math.min(Math.max(needed, 2 * cells.length), most * columns));
            }
        }
    }

    /** All that there is, but images and THE ROW. */
    private static final class Assembly {
        final House house = new House();
        final Pile pending = new Pile();
        final Place draft = new Place();
        final Place[] desk = new Place[PLACES];
        final Ledger minutes = new Ledger(MINUTES_COLUMNS, MOST_ENTRIES);
        final Ledger results = new Ledger(RESULT_COLUMNS, MOST_ENTRIES);
        final Text adopted = new Text();
        int adoptions;
        int names;
        int reason;
        /** Motions that are gone, to be used again, as the room for objects is small. */
        Motion spare;

        Assembly() {
            for (int p = 0; p < PLACES; p++) {
                desk[p] = new Place();
            }
            house.begin(1);
        }

        void begin(int seats) {
            clear();
            house.begin(seats);
            minutes.size = 0;
            results.size = 0;
            adopted.size = 0;
            adoptions = 0;
            names = 0;
            reason = 0;
        }

        /** What other is; why() is 0 then. */
        void become(Assembly other) {
            clear();
            house.become(other.house);
            copy(other.pending, pending);
            draft.sort = other.draft.sort;
            copy(other.draft.pile, draft.pile);
            for (int p = 0; p < PLACES; p++) {
                desk[p].sort = other.desk[p].sort;
                copy(other.desk[p].pile, desk[p].pile);
            }
            minutes.become(other.minutes);
            results.become(other.results);
            adopted.become(other.adopted);
            adoptions = other.adoptions;
            names = other.names;
            reason = 0;
        }

        void copy(Pile source, Pile target) {
            for (int i = 0; i < source.size; i++) {
                Motion motion = source.at(i);
                if (motion != null) {
                    Motion same = newMotion(motion.kind);
                    same.become(motion);
                    target.put(same);
                }
            }
        }

        void clear() {
            release(pending);
            discard(draft);
            for (int p = 0; p < PLACES; p++) {
                discard(desk[p]);
            }
        }

        void discard(Place place) {
            release(place.pile);
            place.sort = NOTHING;
        }

        void release(Pile pile) {
            for (int i = pile.size; i > 0; i--) {
                dropTop(pile);
            }
        }

        void dropTop(Pile pile) {
            Motion motion = pile.pull();
            if (motion != null) {
                motion.nextSpare = spare;
                spare = motion;
            }
        }

        /** The lowest of those that were PENDING; all are gone. */
        Motion pullLowest() {
            for (int i = pending.size; i > 1; i--) {
                dropTop(pending);
            }
            return pending.pull();
        }

        Motion newMotion(int kind) {
            Motion motion = spare;
            if (motion == null) {
                motion = new Motion();
            } else {
                spare = motion.nextSpare;
                motion.nextSpare = null;
            }
            motion.renew(kind);
            return motion;
        }

        Place placeAt(int p) {
            return p < 0 || p >= PLACES ? null : desk[p];
        }

        int freePlaces() {
            int free = 0;
            for (int p = 0; p < PLACES; p++) {
                if (desk[p].isEmpty()) {
                    free++;
                }
            }
            return free;
        }

        Place firstFreePlace() {
            for (int p = 0; p < PLACES; p++) {
                if (desk[p].isEmpty()) {
                    return desk[p];
                }
            }
            return null;
        }

        int wordOf(int m, int i) {
            if (m == NONE) {
                return adopted.wordAt(i);
            }
            Motion motion = m == DRAFT_INDEX ? draft.motion() : pending.at(m);
            return motion == null ? NONE : motion.text.wordAt(i);
        }

        int enact(int act, int a, int b, int c, int d) {
            reason = Rules.against(this, act, a, b, c, d);
            if (reason != 0) {
                return -reason;
            }
            int answer = Deeds.perform(this, act, a, b, c, d);
            minutes.open();
            minutes.write(0, act);
            minutes.write(1, a);
            minutes.write(2, b);
            minutes.write(3, c);
            minutes.write(4, d);
            minutes.write(ANSWER, answer);
            minutes.write(PENDING_BEHIND, pending.size);
            return answer;
        }
    }

    /** The REASONS for which acts are refused; 0 where there is none. */
    private static final class Rules {
        static int against(Assembly x, int act, int a, int b, int c, int d) {
            int reason;
            if (act <= ACT_DEBATE) {
                reason = againstOnFloor(x, act, a, b);
            } else if (act <= ACT_TAKE) {
                reason = againstOnPaper(x, act, a, b, c, d);
            } else {
                reason = againstOnMotion(x, act, a, b);
            }
            return reason == 0 && x.minutes.isFull() ? ROOM : reason;
        }

        static int againstOnFloor(Assembly x, int act, int a, int b) {
            switch (act) {
                case ACT_THERE: return againstThere(x.house, a);
                case ACT_GONE: return againstAbsent(x.house, a);
                case ACT_QUORUM: return againstSetting(x, a >= 0 && a <= MOST_QUORUM);
                case ACT_CHAIR: return againstAbsent(x.house, a);
                case ACT_MAJORITY:
                    return againstSetting(x, a >= MAIN && a <= RECESS && b >= 1 && b <= SORTS_OF_MAJORITY);
                case ACT_LIMIT: return againstSetting(x, a >= 0 && a <= MOST_LIMIT);
                case ACT_FLOOR: return againstFloor(x, a);
                case ACT_CEDE: return x.house.speaker == NONE ? FLOOR : 0;
                case ACT_DEBATE: return againstDebate(x, a);
                default: return STATE;
            }
        }

        static int againstOnPaper(Assembly x, int act, int a, int b, int c, int d) {
            switch (act) {
                case ACT_DRAFT: return a < MAIN || a > RECESS ? RANGE : 0;
                case ACT_SPAN: return againstSpan(x, a, b);
                case ACT_WORD: return againstWord(x, a, b, c, d);
                case ACT_LAY: return againstLay(x, a);
                case ACT_TAKE: return againstTake(x, a);
                default: return STATE;
            }
        }

        static int againstOnMotion(Assembly x, int act, int a, int b) {
            if (act == ACT_MOVE) {
                return againstMove(x, a);
            }
            boolean chairThere = x.house.isThere(x.house.chair);
            if (act == ACT_ADJOURN) {
                return chairThere ? 0 : THERE;
            }
            if ((act == ACT_RULE || act == ACT_TOLD) && !chairThere) {
                return THERE;
            }
            Motion top = x.pending.top();
            if (top == null) {
                return PENDING;
            }
            switch (act) {
                case ACT_SECOND: return againstSecond(x.house, top, a);
                case ACT_VOTE: return againstVote(x.house, top, a, b);
                case ACT_WITHDRAW: return againstWithdraw(x.house, top, a);
                case ACT_RULE: return againstRule(x, top);
                case ACT_APPEAL: return againstAppeal(x.house, top, a);
                case ACT_TOLD: return 0;
                default: return STATE;
            }
        }

        static int againstThere(House house, int s) {
            if (!house.has(s)) {
                return RANGE;
            }
            return house.isThere(s) ? STATE : 0;
        }

        static int againstAbsent(House house, int s) {
            if (!house.has(s)) {
                return RANGE;
            }
            return house.isThere(s) ? 0 : THERE;
        }

        static int againstSetting(Assembly x, boolean inRange) {
            if (!inRange) {
                return RANGE;
            }
            return x.pending.size > 0 ? STATE : 0;
        }

        static int againstFloor(Assembly x, int s) {
            int absent = againstAbsent(x.house, s);
            if (absent != 0) {
                return absent;
            }
            if (s == x.house.chair || x.house.speaker != NONE) {
                return FLOOR;
            }
            Motion top = x.pending.top();
            if (top == null) {
                return 0;
            }
            boolean spent = x.house.limit != 0 && top.floors >= x.house.limit;
            return top.kind == CLOSE || top.closed || spent ? CLOSED : 0;
        }

        static int againstDebate(Assembly x, int s) {
            Motion top = x.pending.top();
            if (top == null) {
                return PENDING;
            }
            if (!x.house.hasFloor(s)) {
                return FLOOR;
            }
            if (top.seconder == NONE) {
                return SECONDED;
            }
            return top.kind == CLOSE || top.kind == TABLE || top.kind == RECESS ? CLOSED : 0;
        }

        static int againstSpan(Assembly x, int a, int b) {
            Motion motion = x.draft.motion();
            if (motion == null || !motion.amends() || motion.laid) {
                return STATE;
            }
            return a < 0 || b < a || b > MOST_WORDS ? RANGE : 0;
        }

        static int againstWord(Assembly x, int a, int b, int c, int d) {
            Motion motion = x.draft.motion();
            if (motion == null || motion.kind > POSTPONE || motion.laid) {
                return STATE;
            }
            if (a == 0 || !isWordOrZero(a) || !isWordOrZero(b) || !isWordOrZero(c) || !isWordOrZero(d)) {
                return RANGE;
            }
            int more = 1 + (b == 0 ? 0 : 1) + (c == 0 ? 0 : 1) + (d == 0 ? 0 : 1);
            return motion.text.size + more > MOST_WORDS ? ROOM : 0;
        }

        static boolean isWordOrZero(int word) {
            return word >= 0 && word <= HIGHEST_WORD;
        }

        static int againstLay(Assembly x, int p) {
            Place place = x.placeAt(p);
            if (place == null) {
                return RANGE;
            }
            if (x.draft.isEmpty() || !place.isEmpty()) {
                return STATE;
            }
            Motion motion = x.draft.motion();
            if (motion != null && motion.amends() && !motion.laid) {
                Motion top = x.pending.top();
                if (top == null || !motion.canBeAbout(top)) {
                    return RANK;
                }
                if (motion.to > top.text.size) {
                    return SPAN;
                }
            }
            return x.freePlaces() == 1 && x.pending.needsPlace() ? ROOM : 0;
        }

        static int againstTake(Assembly x, int p) {
            Place place = x.placeAt(p);
            if (place == null) {
                return RANGE;
            }
            return !x.draft.isEmpty() || place.isEmpty() ? STATE : 0;
        }

        static int againstMove(Assembly x, int s) {
            if (x.draft.isEmpty()) {
                return STATE;
            }
            Motion motion = x.draft.motion();
            Motion top = x.pending.top();
            if (isOutOfRank(x.pending, motion, top)) {
                return RANK;
            }
            if (!x.house.hasFloor(s)) {
                return FLOOR;
            }
            if (top != null && (top.seconder == NONE || top.kind == RULING)) {
                return SECONDED;
            }
            if (!x.house.hasQuorum()) {
                return QUORUM;
            }
            if (motion == null) {
                return 0;
            }
            if (motion.amends() && isOffSubject(motion, top)) {
                return SPAN;
            }
            return lacksRoom(x, motion, top) ? ROOM : 0;
        }

        /** A TABLED row has no single motion, and the rank of a MAIN. */
        static boolean isOutOfRank(Pile pending, Motion motion, Motion top) {
            if (motion == null || motion.kind == MAIN) {
                return top != null;
            }
            if (motion.amends()) {
                return !motion.canBeAbout(top);
            }
            return top == null || pending.highestRank() >= motion.kind;
        }

        static boolean isOffSubject(Motion motion, Motion top) {
            if (top == null || motion.outOfOrder) {
                return true;
            }
            return motion.laid && motion.subject != top.name || motion.to > top.text.size;
        }

        static boolean lacksRoom(Assembly x, Motion motion, Motion top) {
            if (x.pending.size >= MOST_PENDING) {
                return true;
            }
            if (motion.needsPlace()) {
                return x.freePlaces() == 0;
            }
            return motion.amends() && top != null && makesTextTooLong(x.pending, motion, top);
        }

        static boolean makesTextTooLong(Pile pending, Motion motion, Motion top) {
            int size = top.text.sizeWith(motion.from, motion.to, motion.text.size);
            Motion below = pending.at(pending.size - 2);
            if (size > MOST_WORDS) {
                return true;
            }
            return motion.kind == SECOND && below != null && below.text.sizeWith(top.from, top.to, size) > MOST_WORDS;
        }

        static int againstSecond(House house, Motion top, int s) {
            int absent = againstAbsent(house, s);
            if (absent != 0) {
                return absent;
            }
            if (top.seconder != NONE || top.kind == RULING) {
                return SECONDED;
            }
            return s == top.mover || s == house.chair ? FLOOR : 0;
        }

        static int againstVote(House house, Motion top, int s, int how) {
            if (!house.has(s) || how < 0 || how > 2) {
                return RANGE;
            }
            if (!house.isThere(s)) {
                return THERE;
            }
            return top.seconder == NONE ? SECONDED : 0;
        }

        static int againstWithdraw(House house, Motion top, int s) {
            if (s != top.mover || top.kind == RULING) {
                return FLOOR;
            }
            return house.isThere(s) ? 0 : THERE;
        }

        static int againstRule(Assembly x, Motion top) {
            if (top.kind == RULING) {
                return STATE;
            }
            return x.pending.size >= MOST_PENDING ? ROOM : 0;
        }

        static int againstAppeal(House house, Motion top, int s) {
            if (top.kind != RULING || top.seconder != NONE) {
                return STATE;
            }
            int absent = againstAbsent(house, s);
            if (absent != 0) {
                return absent;
            }
            return s == house.chair ? FLOOR : 0;
        }
    }

    /** What acts do that are not refused, and what they answer. */
    private static final class Deeds {
        static int perform(Assembly x, int act, int a, int b, int c, int d) {
            Motion top = x.pending.top();
            switch (act) {
                case ACT_THERE: return x.house.arrive(a);
                case ACT_GONE: return x.house.leave(a);
                case ACT_QUORUM:
                    x.house.quorum = a;
                    return a;
                case ACT_CHAIR: return x.house.takeChair(a);
                case ACT_MAJORITY: return x.house.replaceMajority(a, b);
                case ACT_LIMIT:
                    x.house.limit = a;
                    return a;
                case ACT_FLOOR: return giveFloor(x.house, top, a);
                case ACT_CEDE: return cedeFloor(x.house);
                case ACT_DEBATE: return speak(top);
                case ACT_DRAFT: return begin(x, a);
                case ACT_SPAN: return setSpan(x, a, b);
                case ACT_WORD: return addWords(x, a, b, c, d);
                case ACT_LAY: return layDown(x, a);
                case ACT_TAKE: return takeUp(x, a);
                case ACT_MOVE: return bringUp(x, a);
                case ACT_SECOND:
                case ACT_APPEAL: return support(top, a);
                case ACT_VOTE: return top == null ? 0 : top.castVote(a, b);
                case ACT_WITHDRAW:
                    x.dropTop(x.pending);
                    return x.pending.size;
                case ACT_RULE: return putRuling(x);
                case ACT_TOLD: return top == null ? 0 : Results.announce(x, top);
                case ACT_ADJOURN: return endSitting(x);
                default: return 0;
            }
        }

        static int giveFloor(House house, Motion top, int s) {
            house.speaker = s;
            if (top == null) {
                return 0;
            }
            top.floors++;
            return top.floors;
        }

        static int cedeFloor(House house) {
            int had = house.speaker;
            house.speaker = NONE;
            return had;
        }

        static int speak(Motion top) {
            if (top == null) {
                return 0;
            }
            top.speeches++;
            return top.speeches;
        }

        static int begin(Assembly x, int kind) {
            x.discard(x.draft);
            x.draft.hold(MOTION, x.newMotion(kind));
            return kind;
        }

        static int setSpan(Assembly x, int a, int b) {
            Motion motion = x.draft.motion();
            if (motion != null) {
                motion.from = a;
                motion.to = b;
            }
            return b - a;
        }

        static int addWords(Assembly x, int a, int b, int c, int d) {
            Motion motion = x.draft.motion();
            if (motion == null) {
                return 0;
            }
            motion.text.append(a);
            motion.text.append(b);
            motion.text.append(c);
            motion.text.append(d);
            return motion.text.size;
        }

        static int layDown(Assembly x, int p) {
            Place place = x.placeAt(p);
            Motion motion = x.draft.motion();
            Motion top = x.pending.top();
            if (motion != null && !motion.laid) {
                motion.laid = true;
                motion.subject = motion.amends() && top != null ? top.name : 0;
            }
            if (place != null) {
                place.takeFrom(x.draft);
            }
            return p;
        }

        static int takeUp(Assembly x, int p) {
            Place place = x.placeAt(p);
            if (place != null) {
                x.draft.takeFrom(place);
            }
            if (x.draft.sort == LETTER) {
                x.draft.sort = MOTION;
            }
            return x.draft.kind();
        }

        static int bringUp(Assembly x, int s) {
            Motion motion = x.draft.motion();
            if (motion != null) {
                x.names++;
                motion.name = x.names;
                motion.mover = s;
                motion.laid = false;
            }
            x.draft.pile.pourInto(x.pending);
            x.draft.sort = NOTHING;
            x.house.speaker = NONE;
            return x.pending.size;
        }

        static int support(Motion top, int s) {
            if (top != null) {
                top.seconder = s;
            }
            return 1;
        }

        static int putRuling(Assembly x) {
            Motion ruling = x.newMotion(RULING);
            ruling.mover = x.house.chair;
            x.pending.put(ruling);
            return RULING;
        }

        static int endSitting(Assembly x) {
            int were = x.pending.size;
            x.release(x.pending);
            x.discard(x.draft);
            x.house.speaker = NONE;
            return were;
        }
    }

    /** What becomes of the TOP as its result is told. */
    private static final class Results {
        static int announce(Assembly x, Motion top) {
            if (!x.house.hasQuorum()) {
                return 0;
            }
            boolean heard = top.seconder != NONE;
            int yes = heard ? x.house.tally(top, 1) : 0;
            int no = heard ? x.house.tally(top, 0) : 0;
            int outcome = outcomeOf(x.house, top, yes, no);
            keep(x, top.kind, outcome, yes, no);
            boolean carried = outcome == CARRIED;
            if (carried && top.kind == COMMIT) {
                commit(x);
            } else if (carried && top.kind == POSTPONE) {
                postpone(x);
            } else if (carried && top.kind == TABLE) {
                table(x);
            } else {
                if (carried) {
                    carryAlone(x, top);
                }
                x.dropTop(x.pending);
            }
            if (outcome == STANDS) {
                x.dropTop(x.pending);
            }
            x.house.speaker = NONE;
            return outcome;
        }

        static int outcomeOf(House house, Motion top, int yes, int no) {
            if (top.kind == RULING) {
                return no > yes ? OVERTURNED : STANDS;
            }
            if (top.seconder == NONE) {
                return NOT_SECONDED;
            }
            return house.isMajority(top.kind, yes, no) ? CARRIED : LOST;
        }

        static void keep(Assembly x, int kind, int outcome, int yes, int no) {
            x.results.open();
            x.results.write(0, x.minutes.size);
            x.results.write(1, kind);
            x.results.write(2, outcome);
            x.results.write(3, yes);
            x.results.write(4, no);
        }

        /** What those do that go alone when they are carried. */
        static void carryAlone(Assembly x, Motion top) {
            Motion below = x.pending.at(x.pending.size - 2);
            if (top.kind == MAIN) {
                x.adopted.become(top.text);
                x.adoptions++;
            } else if (top.kind == RECESS) {
                x.house.empty();
            } else if (below != null && top.kind == CLOSE) {
                below.closed = true;
            } else if (below != null && top.amends()) {
                amend(x, below, top);
            }
        }

        /** LAID ones with the same SUBJECT keep to their words of its TEXT, or are OUT OF ORDER. */
        static void amend(Assembly x, Motion subject, Motion amendment) {
            int from = amendment.from;
            int to = amendment.to;
            int words = amendment.text.size;
            subject.text.replace(from, to, amendment.text);
            for (int p = -1; p < PLACES; p++) {
                Motion laid = p < 0 ? x.draft.motion() : x.desk[p].motion();
                if (laid != null && laid.laid && laid.amends() && laid.subject == subject.name) {
                    laid.follow(from, to, words);
                }
            }
        }

        static void commit(Assembly x) {
            Place place = x.firstFreePlace();
            Motion lowest = x.pullLowest();
            if (lowest != null && place != null) {
                lowest.keepTextAs(MAIN);
                place.hold(LETTER, lowest);
            }
        }

        static void postpone(Assembly x) {
            Place place = x.firstFreePlace();
            Motion lowest = x.pullLowest();
            if (lowest != null && place != null) {
                int mover = lowest.mover;
                int seconder = lowest.seconder;
                lowest.keepTextAs(lowest.kind);
                lowest.mover = mover;
                lowest.seconder = seconder;
                lowest.laid = true;
                place.hold(MOTION, lowest);
            }
        }

        static void table(Assembly x) {
            Place place = x.firstFreePlace();
            x.dropTop(x.pending);
            if (place != null) {
                place.sort = TABLED;
                x.pending.pourInto(place.pile);
            }
        }
    }
}
