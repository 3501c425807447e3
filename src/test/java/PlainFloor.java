import java.util.ArrayList;
import java.util.Arrays;
import java.util.HashMap;
import java.util.List;
import java.util.Map;
import java.util.TreeSet;

/**
 * The document's rules once more, in the plainest words that Java has for them: lists, maps and references instead of
 * rows that are used again, and images that are minutes. ModelTest holds MotionFloor against it.
 */
final class PlainFloor {
    static final class Paper {
        int kind;
        int mover = -1;
        int seconder = -1;
        int floors;
        int speeches;
        boolean closed;
        int a;
        int b;
        boolean laid;
        boolean out;
        Paper subject;
        final List<Integer> words = new ArrayList<>();
        final Map<Integer, Integer> votes = new HashMap<>();

        Paper(int kind) {
            this.kind = kind;
        }
    }

    int seats = 1;
    final TreeSet<Integer> present = new TreeSet<>();
    int chair = -1;
    int quorum;
    int limit;
    int speaker = -1;
    final int[] majority = {0, 1, 1, 1, 1, 1, 2, 1, 1};
    List<Paper> pending = new ArrayList<>();
    /** A Paper, or a List of them that was TABLED; null without one. */
    Object draft;
    /** null, a Paper, a List of Papers, or an int[] that is a LETTER. */
    final Object[] desk = new Object[8];
    List<Integer> adopted;
    int adoptions;
    final List<int[]> minutes = new ArrayList<>();
    final List<int[]> results = new ArrayList<>();
    int why;
    /** How many LAID ones have stayed, gone on, and come OUT OF ORDER, for ModelTest to see what it has met. */
    final int[] followed = new int[3];

    PlainFloor(int seats) {
        this.seats = seats;
    }

    static PlainFloor done(int seats, List<int[]> minutes) {
        PlainFloor floor = new PlainFloor(seats);
        for (int[] e : minutes) {
            if (floor.act(e[0], e[1], e[2], e[3], e[4]) != e[5]) {
                throw new IllegalStateException("the model's minutes come otherwise");
            }
        }
        floor.why = 0;
        return floor;
    }

    int act(int act, int a, int b, int c, int d) {
        why = refusal(act, a, b, c, d);
        if (why != 0) {
            return -why;
        }
        int answer = effect(act, a, b, c, d);
        minutes.add(new int[] {act, a, b, c, d, answer});
        return answer;
    }

    int order(int s) {
        why = refusal(15, s, 0, 0, 0);
        return why == 0 ? 1 : 0;
    }

    Paper top() {
        return pending.isEmpty() ? null : pending.get(pending.size() - 1);
    }

    private boolean seat(int s) {
        return 0 <= s && s < seats;
    }

    private int thereRefusal(int s) {
        return !seat(s) ? 9 : !present.contains(s) ? 8 : 0;
    }

    private int free() {
        int free = 0;
        for (Object o : desk) {
            free += o == null ? 1 : 0;
        }
        return free;
    }

    private static boolean fits(Paper paper, Paper top) {
        if (top == null) {
            return false;
        }
        return paper.kind == 2 ? Arrays.asList(1, 4, 5).contains(top.kind) : top.kind == 2;
    }

    int refusal(int act, int a, int b, int c, int d) {
        int own = ownRefusal(act, a, b, c, d);
        return own != 0 ? own : minutes.size() >= 600 ? 10 : 0;
    }

    private int ownRefusal(int act, int a, int b, int c, int d) {
        Paper top = top();
        Paper paper = draft instanceof Paper ? (Paper) draft : null;
        boolean presides = chair >= 0 && present.contains(chair);
        switch (act) {
            case 1: return !seat(a) ? 9 : present.contains(a) ? 11 : 0;
            case 2: return thereRefusal(a);
            case 3: return a < 0 || a > 200 ? 9 : top != null ? 11 : 0;
            case 4: return thereRefusal(a);
            case 5: return a < 1 || a > 8 || b < 1 || b > 3 ? 9 : top != null ? 11 : 0;
            case 6: return a < 0 || a > 99 ? 9 : top != null ? 11 : 0;
            case 7:
                if (thereRefusal(a) != 0) {
                    return thereRefusal(a);
                }
                if (a == chair || speaker >= 0) {
                    return 2;
                }
                return top != null && (top.kind == 6 || top.closed || limit > 0 && top.floors >= limit) ? 6 : 0;
            case 8: return speaker < 0 ? 2 : 0;
            case 9:
                if (top == null) {
                    return 7;
                }
                if (a < 0 || speaker != a) {
                    return 2;
                }
                return top.seconder < 0 ? 3 : top.kind >= 6 && top.kind <= 8 ? 6 : 0;
            case 10: return a < 1 || a > 8 ? 9 : 0;
            case 11:
                if (paper == null || paper.kind != 2 && paper.kind != 3 || paper.laid) {
                    return 11;
                }
                return a < 0 || a > 400 || b < 0 || b > 400 || b < a ? 9 : 0;
            case 12: return wordRefusal(paper, new int[] {a, b, c, d});
            case 13: return layRefusal(paper, a);
            case 14: return a < 0 || a > 7 ? 9 : draft != null || desk[a] == null ? 11 : 0;
            case 15: return moveRefusal(paper, a);
            case 16:
                if (top == null) {
                    return 7;
                }
                if (thereRefusal(a) != 0) {
                    return thereRefusal(a);
                }
                return top.seconder >= 0 || top.kind == 9 ? 3 : a == top.mover || a == chair ? 2 : 0;
            case 17:
                if (top == null) {
                    return 7;
                }
                if (!seat(a) || b < 0 || b > 2) {
                    return 9;
                }
                return !present.contains(a) ? 8 : top.seconder < 0 ? 3 : 0;
            case 18:
                if (top == null) {
                    return 7;
                }
                return a != top.mover || top.kind == 9 ? 2 : !present.contains(a) ? 8 : 0;
            case 19:
                if (!presides) {
                    return 8;
                }
                return top == null ? 7 : top.kind == 9 ? 11 : pending.size() == 9 ? 10 : 0;
            case 20:
                if (top == null) {
                    return 7;
                }
                if (top.kind != 9 || top.seconder >= 0) {
                    return 11;
                }
                return thereRefusal(a) != 0 ? thereRefusal(a) : a == chair ? 2 : 0;
            case 21: return !presides ? 8 : top == null ? 7 : 0;
            case 22: return !presides ? 8 : 0;
            default: throw new IllegalArgumentException("no act");
        }
    }

    private int wordRefusal(Paper paper, int[] words) {
        if (paper == null || paper.kind >= 6 || paper.laid) {
            return 11;
        }
        int more = 0;
        for (int i = 0; i < 4; i++) {
            if (words[i] < (i == 0 ? 1 : 0) || words[i] > 30000) {
                return 9;
            }
            more += words[i] > 0 ? 1 : 0;
        }
        return paper.words.size() + more > 400 ? 10 : 0;
    }

    private int layRefusal(Paper paper, int p) {
        if (p < 0 || p > 7) {
            return 9;
        }
        if (draft == null || desk[p] != null) {
            return 11;
        }
        if (paper != null && !paper.laid && (paper.kind == 2 || paper.kind == 3)) {
            if (!fits(paper, top())) {
                return 1;
            }
            if (paper.b > top().words.size()) {
                return 5;
            }
        }
        boolean sends = pending.stream().anyMatch(m -> m.kind == 4 || m.kind == 5 || m.kind == 7);
        return free() == 1 && sends ? 10 : 0;
    }

    private int moveRefusal(Paper paper, int s) {
        Paper top = top();
        if (draft == null) {
            return 11;
        }
        boolean amends = paper != null && (paper.kind == 2 || paper.kind == 3);
        if (paper == null || paper.kind == 1) {
            if (top != null) {
                return 1;
            }
        } else if (amends) {
            if (!fits(paper, top)) {
                return 1;
            }
        } else if (top == null || pending.stream().anyMatch(m -> m.kind >= paper.kind)) {
            return 1;
        }
        if (s < 0 || speaker != s) {
            return 2;
        }
        if (top != null && top.seconder < 0) {
            return 3;
        }
        if (present.size() < quorum) {
            return 4;
        }
        if (paper == null) {
            return 0;
        }
        if (amends && (paper.out || paper.laid && paper.subject != top || paper.b > top.words.size())) {
            return 5;
        }
        if (pending.size() == 9) {
            return 10;
        }
        if (amends) {
            List<Integer> changed = changed(top, paper, paper.words);
            if (changed.size() > 400) {
                return 10;
            }
            if (paper.kind == 3 && changed(pending.get(pending.size() - 2), top, changed).size() > 400) {
                return 10;
            }
        }
        return (paper.kind == 4 || paper.kind == 5 || paper.kind == 7) && free() == 0 ? 10 : 0;
    }

    private static List<Integer> changed(Paper subject, Paper amend, List<Integer> words) {
        List<Integer> text = new ArrayList<>(subject.words.subList(0, amend.a));
        text.addAll(words);
        text.addAll(subject.words.subList(amend.b, subject.words.size()));
        return text;
    }

    private int effect(int act, int a, int b, int c, int d) {
        Paper top = top();
        Paper paper = draft instanceof Paper ? (Paper) draft : null;
        switch (act) {
            case 1:
                present.add(a);
                return present.size();
            case 2:
                present.remove(a);
                speaker = speaker == a ? -1 : speaker;
                return present.size();
            case 3: return quorum = a;
            case 4:
                speaker = speaker == a ? -1 : speaker;
                return chair = a;
            case 5:
                int was = majority[a];
                majority[a] = b;
                return was;
            case 6: return limit = a;
            case 7:
                speaker = a;
                return top == null ? 0 : ++top.floors;
            case 8:
                int had = speaker;
                speaker = -1;
                return had;
            case 9: return ++top.speeches;
            case 10:
                draft = new Paper(a);
                return a;
            case 11:
                paper.a = a;
                paper.b = b;
                return b - a;
            case 12:
                for (int word : new int[] {a, b, c, d}) {
                    if (word > 0) {
                        paper.words.add(word);
                    }
                }
                return paper.words.size();
            case 13:
                if (paper != null && !paper.laid) {
                    paper.laid = true;
                    paper.subject = top;
                }
                desk[a] = draft;
                draft = null;
                return a;
            case 14: return take(a);
            case 15: return move(paper, a);
            case 16:
            case 20:
                top.seconder = a;
                return 1;
            case 17:
                if (b == 2) {
                    top.votes.remove(a);
                } else {
                    top.votes.put(a, b);
                }
                return top.votes.size();
            case 18:
                pending.remove(top);
                return pending.size();
            case 19:
                Paper ruling = new Paper(9);
                ruling.mover = chair;
                pending.add(ruling);
                return 9;
            case 21: return told(top);
            default:
                int were = pending.size();
                pending.clear();
                draft = null;
                speaker = -1;
                return were;
        }
    }

    private int take(int p) {
        Object lies = desk[p];
        desk[p] = null;
        draft = lies;
        if (lies instanceof int[]) {
            Paper main = new Paper(1);
            for (int word : (int[]) lies) {
                main.words.add(word);
            }
            draft = main;
        }
        return draft instanceof Paper ? ((Paper) draft).kind : 7;
    }

    private int move(Paper paper, int s) {
        if (paper == null) {
            for (Object tabled : (List<?>) draft) {
                pending.add((Paper) tabled);
            }
        } else {
            paper.mover = s;
            pending.add(paper);
        }
        draft = null;
        speaker = -1;
        return pending.size();
    }

    private int told(Paper top) {
        if (present.size() < quorum) {
            return 0;
        }
        int yes = 0;
        int no = 0;
        for (int s : present) {
            yes += top.votes.getOrDefault(s, -1) == 1 ? 1 : 0;
            no += top.votes.getOrDefault(s, -1) == 0 ? 1 : 0;
        }
        int told;
        if (top.kind == 9) {
            told = no > yes ? 5 : 4;
        } else if (top.seconder < 0) {
            told = 3;
        } else {
            boolean[] carried = {false, yes > no, yes * 3 >= (yes + no) * 2 && yes >= 1, yes + yes > seats};
            told = carried[majority[top.kind]] ? 1 : 2;
        }
        results.add(new int[] {minutes.size(), top.kind, told, yes, no});
        speaker = -1;
        pending.remove(pending.size() - 1);
        if (told == 4) {
            pending.remove(pending.size() - 1);
        }
        if (told == 1) {
            carried(top);
        }
        return told;
    }

    /** The top is off already. */
    private void carried(Paper top) {
        Paper below = top();
        int p = 0;
        while (p < 8 && desk[p] != null) {
            p++;
        }
        switch (top.kind) {
            case 1:
                adopted = top.words;
                adoptions++;
                break;
            case 2:
            case 3:
                List<Integer> text = changed(below, top, top.words);
                below.words.clear();
                below.words.addAll(text);
                for (Object lies : desk) {
                    follow(lies, below, top);
                }
                follow(draft, below, top);
                break;
            case 4:
                desk[p] = pending.get(0).words.stream().mapToInt(Integer::intValue).toArray();
                pending.clear();
                break;
            case 5:
                Paper main = new Paper(pending.get(0).kind);
                main.words.addAll(pending.get(0).words);
                main.seconder = pending.get(0).seconder;
                main.laid = true;
                desk[p] = main;
                pending.clear();
                break;
            case 6:
                below.closed = true;
                break;
            case 7:
                desk[p] = pending;
                pending = new ArrayList<>();
                break;
            default:
                present.clear();
        }
    }

    private void follow(Object lies, Paper subject, Paper amend) {
        if (!(lies instanceof Paper)) {
            return;
        }
        Paper laid = (Paper) lies;
        if (!laid.laid || laid.subject != subject || laid.kind != 2 && laid.kind != 3) {
            return;
        }
        if (laid.b <= amend.a) {
            followed[0]++;
            return;
        }
        if (laid.a >= amend.b) {
            int by = amend.words.size() - (amend.b - amend.a);
            laid.a += by;
            laid.b += by;
            followed[1]++;
        } else {
            followed[2]++;
            laid.out = true;
        }
    }

    private static int at(List<Integer> words, int i) {
        return words == null || i < 0 || i >= words.size() ? -1 : words.get(i);
    }

    int pending(int i, int what) {
        if (i < 0 || i >= pending.size() || what < 0 || what > 9) {
            return -1;
        }
        Paper m = pending.get(i);
        int[] facts = {
            m.kind, m.mover, m.seconder, m.words.size(), m.a, m.b, m.floors, m.speeches, m.closed ? 1 : 0, m.votes.size()
        };
        return facts[what];
    }

    int text(int m, int i) {
        if (m == -1) {
            return at(adopted, i);
        }
        if (m == 9) {
            return draft instanceof Paper ? at(((Paper) draft).words, i) : -1;
        }
        return m < 0 || m >= pending.size() ? -1 : at(pending.get(m).words, i);
    }

    int ballot(int s) {
        return top() == null ? -1 : top().votes.getOrDefault(s, -1);
    }

    int desk(int p, int what) {
        if (p < 0 || p > 7 || what < 0 || what > 5) {
            return -1;
        }
        Object lies = desk[p];
        int[] facts = new int[6];
        if (lies instanceof int[]) {
            facts = new int[] {1, 1, ((int[]) lies).length, 0, 0, 0};
        } else if (lies instanceof Paper) {
            Paper m = (Paper) lies;
            facts = new int[] {2, m.kind, m.words.size(), m.a, m.b, m.out ? 1 : 0};
        } else if (lies instanceof List<?>) {
            List<?> row = (List<?>) lies;
            facts = new int[] {3, row.size(), ((Paper) row.get(0)).words.size(), 0, 0, 0};
        }
        return facts[what];
    }

    int lying(int p, int i) {
        if (p < 0 || p > 7 || i < 0) {
            return -1;
        }
        Object lies = desk[p];
        if (lies instanceof int[]) {
            return i < ((int[]) lies).length ? ((int[]) lies)[i] : -1;
        }
        if (lies instanceof Paper) {
            return at(((Paper) lies).words, i);
        }
        return lies == null ? -1 : at(((Paper) ((List<?>) lies).get(0)).words, i);
    }

    int result(int i, int what) {
        return i < 0 || i >= results.size() || what < 0 || what > 4 ? -1 : results.get(i)[what];
    }

    int journal(int i, int what) {
        return i < 0 || i >= minutes.size() || what < 0 || what > 5 ? -1 : minutes.get(i)[what];
    }

    int count(int what) {
        int kind = draft == null ? 0 : draft instanceof Paper ? ((Paper) draft).kind : 7;
        int[] counts = {
            seats, present.size(), chair, quorum, limit, speaker, pending.size(), kind, minutes.size(), results.size(),
            adopted == null ? -1 : adopted.size(), adoptions
        };
        return what < 0 || what >= counts.length ? -1 : counts[what];
    }

    int seat0(int s) {
        return !seat(s) ? -1 : present.contains(s) ? 1 : 0;
    }
}
