import java.util.ArrayList;
import java.util.Arrays;
import java.util.HashMap;
import java.util.List;
import java.util.Map;

/**
 * The document, told once more in the plainest way: every answer is reckoned from the list of
 * questions and answers anew, FEWEST by trying all heaps, with no bound and no order among STATES.
 */
final class NaiveLiar {
    private static final int FAR = 1000;
    /** FEWEST of STATES does not change, so all objects may share what was reckoned: by KIND and how many have each LEFT. */
    private static final Map<Integer, Integer> HEAPS = new HashMap<>();
    private static final Map<String, Integer> SPANS = new HashMap<>();

    private boolean on = false;
    private int kind = 0;
    private int n = 0;
    private int e = 0;
    private int waits = -1;
    private int takenBack = 0;
    private long trace = 0;
    private final List<int[]> answers = new ArrayList<>();
    private final List<Integer> code = new ArrayList<>();

    // ---- COST and LEFT

    static int costOf(int kind, boolean yes, boolean in) {
        if (kind == 0) {
            return yes == in ? 0 : 9;
        }
        if (kind == 1) {
            return yes == in ? 0 : 1;
        }
        if (yes) {
            return in ? 0 : 1;
        }
        return in ? 9 : 0;
    }

    private static int[] after(int kind, int[] lefts, int heap, boolean yes) {
        int[] next = lefts.clone();
        for (int i = 0; i < next.length; i++) {
            if (next[i] >= 0) {
                next[i] = Math.max(-1, next[i] - costOf(kind, yes, (heap >> i & 1) == 1));
            }
        }
        return next;
    }

    private int[] lefts() {
        int[] lefts = new int[n];
        Arrays.fill(lefts, e);
        for (int[] answer : answers) {
            lefts = after(kind, lefts, answer[0], answer[1] == 1);
        }
        return lefts;
    }

    private static int[] standing(int[] lefts) {
        return Arrays.stream(lefts).filter(left -> left >= 0).toArray();
    }

    // ---- FEWEST

    static int fewestOf(int kind, int[] lefts) {
        int key = kind;
        int standing = 0;
        for (int left : lefts) {
            if (left >= 0) {
                key += 4 << (5 * left);
                standing++;
            }
        }
        if (standing <= 1) {
            return 0;
        }
        Integer known = HEAPS.get(key);
        if (known == null) {
            known = leastBehind(kind, standing(lefts));
            HEAPS.put(key, known);
        }
        return known;
    }

    private static int leastBehind(int kind, int[] row) {
        Arrays.sort(row);
        int least = FAR;
        for (int heap : heapsOf(row)) {
            int[] yes = standing(after(kind, row, heap, true));
            int[] no = standing(after(kind, row, heap, false));
            Arrays.sort(yes);
            Arrays.sort(no);
            if (!Arrays.equals(yes, row) && !Arrays.equals(no, row)) {
                least = Math.min(least, 1 + Math.max(fewestOf(kind, yes), fewestOf(kind, no)));
            }
        }
        return least;
    }

    /** All heaps of a sorted row, but of those that have as many of each LEFT only one. */
    private static List<Integer> heapsOf(int[] row) {
        List<Integer> heaps = new ArrayList<>(List.of(0));
        int at = 0;
        while (at < row.length) {
            int end = at;
            while (end < row.length && row[end] == row[at]) {
                end++;
            }
            List<Integer> more = new ArrayList<>();
            for (int heap : heaps) {
                int bits = heap;
                more.add(bits);
                for (int i = at; i < end; i++) {
                    bits |= 1 << i;
                    more.add(bits);
                }
            }
            heaps = more;
            at = end;
        }
        return heaps;
    }

    /** With those that are OUT kept in their row. */
    static int spansOf(int kind, int[] lefts) {
        if (standing(lefts).length <= 1) {
            return 0;
        }
        String key = kind + Arrays.toString(lefts);
        Integer known = SPANS.get(key);
        if (known != null) {
            return known;
        }
        int least = FAR;
        for (int first = 0; first < lefts.length; first++) {
            for (int last = first; last < lefts.length; last++) {
                int heap = (1 << (last + 1)) - (1 << first);
                int[] yes = after(kind, lefts, heap, true);
                int[] no = after(kind, lefts, heap, false);
                if (!Arrays.equals(yes, lefts) && !Arrays.equals(no, lefts)) {
                    least = Math.min(least, 1 + Math.max(spansOf(kind, yes), spansOf(kind, no)));
                }
            }
        }
        SPANS.put(key, least);
        return least;
    }

    private static int orNone(int fewest) {
        return fewest > 12 ? -9 : fewest;
    }

    // ---- the calls

    int begin(int newKind, int numbers, int lies) {
        if (newKind < 0 || newKind > 2 || numbers < 1 || numbers > 16) {
            return -1;
        }
        if (newKind != 0 && (lies < 0 || lies > 3)) {
            return -1;
        }
        on = true;
        kind = newKind;
        n = numbers;
        e = newKind == 0 ? 0 : lies;
        waits = -1;
        answers.clear();
        return fewest();
    }

    int cost(int ofKind, boolean yes, boolean in) {
        if (ofKind < 0 || ofKind > 2) {
            return -1;
        }
        trace += new int[] {1, 11, 111}[ofKind];
        return costOf(ofKind, yes, in);
    }

    int ask(int heap) {
        if (heap < 0 || heap >= 65536) {
            return -1;
        }
        if (!on) {
            return -2;
        }
        if (heap >= 1 << n) {
            return -1;
        }
        waits = heap;
        int count = 0;
        int[] lefts = lefts();
        for (int i = 0; i < n; i++) {
            if ((heap >> i & 1) == 1 && lefts[i] >= 0) {
                count++;
            }
        }
        return count;
    }

    int answer(boolean yes) {
        if (!on || waits < 0) {
            return -2;
        }
        int count = standing(after(kind, lefts(), waits, yes)).length;
        if (count == 0) {
            return -2;
        }
        if (answers.size() == 60) {
            return -3;
        }
        answers.add(new int[] {waits, yes ? 1 : 0});
        waits = -1;
        return count;
    }

    int back() {
        if (!on || answers.isEmpty()) {
            return -2;
        }
        answers.remove(answers.size() - 1);
        waits = -1;
        takenBack++;
        return answers.size();
    }

    int left(int number) {
        if (number < 0 || number > 15) {
            return -2;
        }
        if (!on) {
            return -3;
        }
        return number < n ? lefts()[number] : -2;
    }

    int state(int i) {
        if (i < 0 || i > 3) {
            return -1;
        }
        return on ? (int) Arrays.stream(lefts()).filter(left -> left == i).count() : -2;
    }

    int found() {
        if (!on) {
            return -2;
        }
        int[] lefts = lefts();
        if (standing(lefts).length != 1) {
            return -9;
        }
        int at = 0;
        while (lefts[at] < 0) {
            at++;
        }
        return at;
    }

    int fewest() {
        return on ? orNone(fewestOf(kind, lefts())) : -2;
    }

    int spans() {
        if (!on) {
            return -2;
        }
        return n > 6 || e > 2 ? -1 : orNone(spansOf(kind, lefts()));
    }

    long weight(int q) {
        if (q < 0 || q > 20 || !on || kind != 1) {
            return -1;
        }
        long sum = 0;
        for (int left : lefts()) {
            for (int lies = 0; lies <= left; lies++) {
                sum += choose(q, lies);
            }
        }
        return sum;
    }

    private static long choose(int of, int some) {
        if (some == 0) {
            return 1;
        }
        return of == 0 ? 0 : choose(of - 1, some - 1) + choose(of - 1, some);
    }

    int best() {
        if (!on || fewest() == 0 || fewest() == -9) {
            return -2;
        }
        return bestOf(kind, lefts());
    }

    static int bestOf(int kind, int[] lefts) {
        int least = FAR;
        int best = -1;
        for (int heap = 0; heap < 1 << lefts.length; heap++) {
            int[] yes = after(kind, lefts, heap, true);
            int[] no = after(kind, lefts, heap, false);
            int greater = Math.max(fewestOf(kind, yes), fewestOf(kind, no));
            if (greater < least) {
                least = greater;
                best = heap;
            }
        }
        return best;
    }

    int worse() {
        if (!on || waits < 0) {
            return -2;
        }
        int[] yes = after(kind, lefts(), waits, true);
        int[] no = after(kind, lefts(), waits, false);
        boolean yesComes = standing(yes).length > 0;
        boolean noComes = standing(no).length > 0;
        int behindYes = fewestOf(kind, yes);
        int behindNo = fewestOf(kind, no);
        if (yesComes && behindYes > 12 || noComes && behindNo > 12) {
            return -2;
        }
        if (!yesComes || !noComes) {
            return yesComes ? 1 : 0;
        }
        return behindNo > behindYes ? 0 : 1;
    }

    int set(int heap) {
        if (heap < 0 || heap > 65535) {
            return -1;
        }
        if (code.size() == 12) {
            return -3;
        }
        code.add(heap);
        return code.size();
    }

    int drop() {
        if (code.isEmpty()) {
            return -2;
        }
        code.remove(code.size() - 1);
        return code.size();
    }

    int word(int number) {
        if (number < 0 || number > 15) {
            return -1;
        }
        int word = 0;
        for (int k = 0; k < code.size(); k++) {
            if ((code.get(k) >> number & 1) == 1) {
                word += 1 << k;
            }
        }
        return word;
    }

    int apart(int a, int b) {
        if (a < 0 || a > 15 || b < 0 || b > 15) {
            return -1;
        }
        return differing(word(a), word(b));
    }

    private static int differing(int a, int b) {
        int count = 0;
        for (int k = 0; k < 31; k++) {
            if ((a >> k & 1) != (b >> k & 1)) {
                count++;
            }
        }
        return count;
    }

    int serves(int numbers, int lies) {
        if (numbers < 1 || numbers > 16 || lies < 0 || lies > 3) {
            return -1;
        }
        for (int a = 0; a < numbers; a++) {
            for (int b = a + 1; b < numbers; b++) {
                if (apart(a, b) <= 2 * lies) {
                    return 0;
                }
            }
        }
        return 1;
    }

    int read(int word, int numbers, int lies) {
        if (word < 0 || word >= 1 << code.size() || numbers < 1 || numbers > 16 || lies < 0 || lies > 3) {
            return -1;
        }
        List<Integer> near = new ArrayList<>();
        for (int number = 0; number < numbers; number++) {
            if (differing(word, word(number)) <= lies) {
                near.add(number);
            }
        }
        return near.size() == 1 ? near.get(0) : -9;
    }

    int play(int word) {
        if (word < 0 || word >= 1 << code.size()) {
            return -1;
        }
        if (!on) {
            return -2;
        }
        int answered = 0;
        for (int k = 0; k < code.size(); k++) {
            ask(code.get(k) % (1 << n));
            if (answer((word >> k & 1) == 1) < 0) {
                break;
            }
            answered++;
        }
        waits = -1;
        return answered;
    }

    int told(int what) {
        if (what < 0 || what > 7) {
            return -2;
        }
        return new int[] {on ? 1 : 0, kind, n, e, answers.size(), waits, code.size(), takenBack}[what];
    }

    long trace() {
        return trace;
    }
}
