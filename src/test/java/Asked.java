/** An object of LiarsAnswers that counts its calls: behind the 512th nothing is promised any more. */
final class Asked {
    static final int MOST_CALLS = 512;

    private final LiarsAnswers x = new LiarsAnswers();
    private int calls = 0;

    private LiarsAnswers once() {
        calls++;
        if (calls > MOST_CALLS) {
            throw new IllegalStateException("the test uses one object for more than 512 calls");
        }
        return x;
    }

    int calls() {
        return calls;
    }

    int begin(int kind, int n, int e) {
        return once().begin(kind, n, e);
    }

    int cost(int kind, boolean yes, boolean in) {
        return once().cost(kind, yes, in);
    }

    int ask(int heap) {
        return once().ask(heap);
    }

    int answer(boolean yes) {
        return once().answer(yes);
    }

    int say(int heap, boolean yes) {
        ask(heap);
        return answer(yes);
    }

    int back() {
        return once().back();
    }

    int left(int number) {
        return once().left(number);
    }

    int state(int i) {
        return once().state(i);
    }

    int found() {
        return once().found();
    }

    int fewest() {
        return once().fewest();
    }

    int spans() {
        return once().spans();
    }

    long weight(int q) {
        return once().weight(q);
    }

    int best() {
        return once().best();
    }

    int worse() {
        return once().worse();
    }

    int set(int heap) {
        return once().set(heap);
    }

    int drop() {
        return once().drop();
    }

    int word(int number) {
        return once().word(number);
    }

    int apart(int a, int b) {
        return once().apart(a, b);
    }

    int serves(int n, int e) {
        return once().serves(n, e);
    }

    int read(int word, int n, int e) {
        return once().read(word, n, e);
    }

    int play(int word) {
        return once().play(word);
    }

    int told(int what) {
        return once().told(what);
    }

    long trace() {
        return once().trace();
    }
}
