/** Long runs of calls, ordinary and wrong ones mixed, against the plain retelling of the document. */
public final class RandomRunsTest {
    private static final int RUNS = 1500;
    private static final int CALLS = 300;
    /** What one turn may take: tell() looks at all that told() tells. */
    private static final int MOST_A_TURN = 11;

    private final Due due = new Due("RandomRunsTest");
    private long seed;
    private Asked x;
    private NaiveLiar y;

    public static void main(String[] args) {
        RandomRunsTest test = new RandomRunsTest();
        for (int run = 0; run < RUNS && test.due.wrong() == 0; run++) {
            test.run(run);
        }
        test.due.end();
    }

    private int below(int bound) {
        seed = seed * 6364136223846793005L + 1442695040888963407L;
        return (int) Math.floorMod(seed >> 33, (long) bound);
    }

    private boolean coin() {
        return below(2) == 1;
    }

    /** low .. high mostly, now and then just beyond it or far away. */
    private int about(int low, int high) {
        switch (below(40)) {
            case 0: return low - 1;
            case 1: return high + 1;
            case 2: return coin() ? Integer.MAX_VALUE : Integer.MIN_VALUE;
            default: return low + below(high - low + 1);
        }
    }

    private void run(int run) {
        seed = run * 7919L + 17;
        x = new Asked();
        y = new NaiveLiar();
        int calls = below(CALLS) + 20;
        for (int k = 0; k < calls && x.calls() + MOST_A_TURN <= Asked.MOST_CALLS; k++) {
            call("run " + run + " call " + k + " ");
        }
    }

    private void call(String at) {
        switch (below(24)) {
            case 0: begin(at); break;
            case 1: cost(at); break;
            case 2: case 3: case 4: case 5: ask(at); break;
            case 6: case 7: case 8: case 9: answer(at); break;
            case 10: due.is(at + "back()", x.back(), y.back()); break;
            case 11: look(at); break;
            case 12: due.is(at + "fewest()", x.fewest(), y.fewest()); break;
            case 13: due.is(at + "spans()", x.spans(), y.spans()); break;
            case 14: { int q = about(0, 20); due.is(at + "weight(" + q + ")", x.weight(q), y.weight(q)); break; }
            case 15: due.is(at + "best()", x.best(), y.best()); break;
            case 16: due.is(at + "worse()", x.worse(), y.worse()); break;
            case 17: case 18: { int heap = about(0, 65535); due.is(at + "set(" + heap + ")", x.set(heap), y.set(heap)); break; }
            case 19: if (below(3) == 0) { due.is(at + "drop()", x.drop(), y.drop()); } break;
            case 20: words(at); break;
            case 21: read(at); break;
            case 22: play(at); break;
            default: tell(at); break;
        }
    }

    private void begin(String at) {
        int kind = about(0, 2);
        int n = coin() ? about(1, 6) : about(1, 16);
        int e = about(0, 3);
        due.is(at + "begin(" + kind + ", " + n + ", " + e + ")", x.begin(kind, n, e), y.begin(kind, n, e));
    }

    private void cost(String at) {
        int kind = about(0, 2);
        boolean yes = coin();
        boolean in = coin();
        due.is(at + "cost(" + kind + ", " + yes + ", " + in + ")", x.cost(kind, yes, in), y.cost(kind, yes, in));
    }

    private void ask(String at) {
        int n = y.told(2);
        int heap = about(0, n == 0 ? 65535 : (1 << n) - 1);
        due.is(at + "ask(" + heap + ")", x.ask(heap), y.ask(heap));
    }

    private void answer(String at) {
        boolean yes = coin();
        due.is(at + "answer(" + yes + ")", x.answer(yes), y.answer(yes));
    }

    private void look(String at) {
        int number = about(0, 15);
        int i = about(0, 3);
        due.is(at + "left(" + number + ")", x.left(number), y.left(number));
        due.is(at + "state(" + i + ")", x.state(i), y.state(i));
        due.is(at + "found()", x.found(), y.found());
    }

    private void words(String at) {
        int a = about(0, 15);
        int b = about(0, 15);
        int n = about(1, 16);
        int e = below(3) == 0 ? about(0, 3) : 0;
        due.is(at + "word(" + a + ")", x.word(a), y.word(a));
        due.is(at + "apart(" + a + ", " + b + ")", x.apart(a, b), y.apart(a, b));
        due.is(at + "serves(" + n + ", " + e + ")", x.serves(n, e), y.serves(n, e));
    }

    private void read(String at) {
        int word = about(0, (1 << y.told(6)) - 1);
        int n = about(1, 16);
        int e = about(0, 3);
        due.is(at + "read(" + word + ", " + n + ", " + e + ")", x.read(word, n, e), y.read(word, n, e));
    }

    private void play(String at) {
        int word = about(0, (1 << y.told(6)) - 1);
        due.is(at + "play(" + word + ")", x.play(word), y.play(word));
    }

    private void tell(String at) {
        for (int what = -1; what <= 8; what++) {
            due.is(at + "told(" + what + ")", x.told(what), y.told(what));
        }
        due.is(at + "trace()", x.trace(), y.trace());
    }
}
