/** FEWEST of every STATE; spans, THE BEST heap and the bound by WEIGHT for every row of few NUMBERS. */
public final class EveryStateTest {
    /** What one row may take. */
    private static final int MOST_A_ROW = 20;

    private final Due due = new Due("EveryStateTest");
    private final int kind;
    private final int n;
    private final int e;
    private Asked x = new Asked();

    private EveryStateTest(int kind, int n, int e) {
        this.kind = kind;
        this.n = n;
        this.e = e;
    }

    public static void main(String[] args) {
        Due begun = new Due("EveryStateTest of begin");
        for (int kind = 0; kind <= 2; kind++) {
            everyBegin(kind, begun);
        }
        begun.end();
        for (int kind = 1; kind <= 2; kind++) {
            new EveryStateTest(kind, 16, 3).everyCount();
            new EveryStateTest(kind, 6, 2).everyRow(true);
            new EveryStateTest(kind, 5, 3).everyRow(false);
        }
        new EveryStateTest(0, 6, 0).everyRow(true);
    }

    /** From few NUMBERS to many and back, so that an object has to learn more, and to know less again. */
    private static void everyBegin(int kind, Due due) {
        Asked x = new Asked();
        for (int pass = 0; pass < 2; pass++) {
            for (int k = 0; k < 64; k++) {
                int n = pass == 0 ? 1 + k / 4 : 16 - k / 4;
                int e = k % 4;
                int[] lefts = new int[n];
                java.util.Arrays.fill(lefts, kind == 0 ? 0 : e);
                int fewest = NaiveLiar.fewestOf(kind, lefts);
                due.is("begin(" + kind + ", " + n + ", " + e + ")", x.begin(kind, n, e), fewest > 12 ? -9 : fewest);
            }
        }
    }

    private void everyCount() {
        for (int three = 0; three <= n; three++) {
            for (int two = three; two <= n; two++) {
                for (int one = two; one <= n; one++) {
                    for (int zero = Math.max(1, one); zero <= n; zero++) {
                        int[] lefts = new int[n];
                        for (int i = 0; i < n; i++) {
                            lefts[i] = i < three ? 3 : i < two ? 2 : i < one ? 1 : i < zero ? 0 : -1;
                        }
                        comeTo(lefts);
                        fewest(lefts);
                    }
                }
            }
        }
        due.end();
    }

    private void everyRow(boolean withSpans) {
        int rows = 1;
        for (int i = 0; i < n; i++) {
            rows *= e + 2;
        }
        for (int row = 1; row < rows; row++) {
            int[] lefts = new int[n];
            int rest = row;
            for (int i = 0; i < n; i++) {
                lefts[i] = rest % (e + 2) - 1;
                rest /= e + 2;
            }
            comeTo(lefts);
            fewest(lefts);
            best(lefts);
            weight(lefts);
            if (withSpans) {
                int spans = NaiveLiar.spansOf(kind, lefts);
                due.is("spans() at " + java.util.Arrays.toString(lefts), x.spans(), spans > 12 ? -9 : spans);
            }
        }
        due.end();
    }

    /** By answers of yes alone: each takes one off LEFT of those that are not in its heap, or puts them OUT. */
    private void comeTo(int[] lefts) {
        if (x.calls() + MOST_A_ROW > Asked.MOST_CALLS) {
            x = new Asked();
        }
        x.begin(kind, n, e);
        for (int off = 1; off <= e + 1; off++) {
            int heap = 0;
            for (int i = 0; i < n; i++) {
                if (e - lefts[i] < off) {
                    heap |= 1 << i;
                }
            }
            x.ask(heap);
            x.answer(true);
        }
        for (int i = 0; i <= 3; i++) {
            int want = i;
            due.is("state(" + i + ")", x.state(i), java.util.Arrays.stream(lefts).filter(left -> left == want).count());
        }
    }

    private void fewest(int[] lefts) {
        int fewest = NaiveLiar.fewestOf(kind, lefts);
        due.is("fewest() at " + java.util.Arrays.toString(lefts), x.fewest(), fewest > 12 ? -9 : fewest);
    }

    private void best(int[] lefts) {
        int fewest = NaiveLiar.fewestOf(kind, lefts);
        int want = fewest == 0 || fewest > 12 ? -2 : NaiveLiar.bestOf(kind, lefts);
        due.is("best() at " + java.util.Arrays.toString(lefts), x.best(), want);
    }

    /** Where WEIGHT (q) is above 2^q, FEWEST is above q. */
    private void weight(int[] lefts) {
        int fewest = NaiveLiar.fewestOf(kind, lefts);
        if (kind == 1 && fewest <= 20) {
            due.holds("weight(" + fewest + ")", x.weight(fewest) <= 1L << fewest);
        }
    }
}
