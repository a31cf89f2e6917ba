/**
 * A number is found by questions answered yes or no, some of them falsely.
 * The document of the project says what each call answers.
 */
public final class LiarsAnswers {
    public static final int BAD = -1, STATE = -2, FULL = -3, NONE = -9;

    private static final int TRUE = 0, BOTH = 1;
    private static final int KINDS = 3;

    private static final int MOST_NUMBERS = 16;
    private static final int ALL_BITS = 65535;
    private static final int MOST_LIES = 3;
    private static final int MOST_ANSWERS = 60;
    private static final int MOST_QUESTIONS = 12;
    private static final int MOST_WEIGHED = 20;
    private static final int SPAN_NUMBERS = 6;
    private static final int SPAN_LIES = 2;

    private static final int OUT = -1;
    private static final int NOTHING = -1;
    /** A COST that no LEFT can bear. */
    private static final int UNBEARABLE = 9;
    /** FEWEST is told up to 12; all that is greater is alike. */
    private static final int MOST_FEWEST = 12;
    private static final int ABOVE = MOST_FEWEST + 1;

    /** left() and told() answer OUT or "nothing" by -1, so their refusals stand one lower. */
    private static final int BAD_TOLD_LOWER = -2;
    private static final int STATE_TOLD_LOWER = -3;
    private static final long NO_WEIGHT = -1L;

    private static final int LEVELS = MOST_LIES + 1;
    private static final int COUNTS = MOST_NUMBERS + 1;
    /** How many rows h0 >= h1 >= h2 >= h3 of counts 0 .. 16 there are. */
    private static final int STATES = 4845;
    /**
     * Where a row of counts h0 >= h1 >= h2 >= h3 stands among all of them, in the order of h3, then
     * h2, h1, h0: the sum over its levels of PLACES[level * COUNTS + h], which is
     * C(16 + level, level + 1) - C(16 + level - h, level + 1). A sum over levels can be kept while
     * levels are chosen one by one.
     */
    private static final int[] PLACES = {
        0, 1, 2, 3, 4, 5, 6, 7, 8, 9, 10, 11, 12, 13, 14, 15, 16,
        0, 16, 31, 45, 58, 70, 81, 91, 100, 108, 115, 121, 126, 130, 133, 135, 136,
        0, 136, 256, 361, 452, 530, 596, 651, 696, 732, 760, 781, 796, 806, 812, 815, 816,
        0, 816, 1496, 2056, 2511, 2875, 3161, 3381, 3546, 3666, 3750, 3806, 3841, 3861, 3871, 3875, 3876
    };

    /** Bit 0 of each two-bit digit of a row of NUMBERS, and of one digit beyond the last. */
    private static final int DIGIT_ONES = 0x1555;
    private static final int SPAN_ROWS = 1 << (2 * SPAN_NUMBERS);
    private static final int MOST_DIGIT = SPAN_LIES + 1;

    private final Liar[] liars = {new Liar(), new BothLiar(), new YesLiar()};
    private final Tally traced = new Tally();
    /** Takes what the bodies count when it is not cost() that asks them. */
    private final Tally untold = new Tally();
    /** Made when a KIND is first used: most objects never need all of them. */
    private final HeapTable[] heapTables = new HeapTable[KINDS];
    private final SpanTable[] spanTables = new SpanTable[KINDS];
    private final Game game = new Game();
    private final Code code = new Code();
    private int takenBack = 0;

    public LiarsAnswers() {
    }

    // ---- a game

    public int begin(int kind, int n, int e) {
        if (!isKind(kind) || !isCount(n)) {
            return BAD;
        }
        if (kind != TRUE && !isLies(e)) {
            return BAD;
        }
        int lies = kind == TRUE ? 0 : e;
        game.start(kind, n, lies, yesPrice(kind), noPrice(kind));
        heapTable(kind).learn(n, lies);
        return toldOrNone(fewestNow());
    }

    public int cost(int kind, boolean yes, boolean in) {
        if (!isKind(kind)) {
            return BAD;
        }
        return liars[kind].price(yes, in, traced);
    }

    public int ask(int heap) {
        if (!isHeap(heap)) {
            return BAD;
        }
        if (!game.on) {
            return STATE;
        }
        if (game.within(heap) != heap) {
            return BAD;
        }
        game.waitFor(heap);
        return game.standingIn(heap);
    }

    public int answer(boolean yes) {
        if (!game.on || game.waits == NOTHING) {
            return STATE;
        }
        return game.reply(game.waits, yes);
    }

    public int back() {
        if (!game.on || game.answers == 0) {
            return STATE;
        }
        game.forgetLatest();
        takenBack++;
        return game.answers;
    }

    public int left(int number) {
        if (!isNumber(number)) {
            return BAD_TOLD_LOWER;
        }
        if (!game.on) {
            return STATE_TOLD_LOWER;
        }
        return number < game.n ? game.leftOf(number) : BAD_TOLD_LOWER;
    }

    public int state(int i) {
        if (!isLies(i)) {
            return BAD;
        }
        return game.on ? game.countOf(i) : STATE;
    }

    public int found() {
        if (!game.on) {
            return STATE;
        }
        int alone = NONE;
        int standing = 0;
        for (int number = 0; number < game.n; number++) {
            if (game.leftOf(number) != OUT) {
                alone = number;
                standing++;
            }
        }
        return standing == 1 ? alone : NONE;
    }

    public int fewest() {
        return game.on ? toldOrNone(fewestNow()) : STATE;
    }

    public int spans() {
        if (!game.on) {
            return STATE;
        }
        if (game.n > SPAN_NUMBERS || game.e > SPAN_LIES) {
            return BAD;
        }
        return toldOrNone(spanTable(game.kind).fewestOf(game.asDigits()));
    }

    public long weight(int q) {
        if (q < 0 || q > MOST_WEIGHED || !game.on || game.kind != BOTH) {
            return NO_WEIGHT;
        }
        long sum = 0;
        for (int number = 0; number < game.n; number++) {
            sum += waysToLie(q, game.leftOf(number));
        }
        return sum;
    }

    public int best() {
        if (!game.on) {
            return STATE;
        }
        int now = fewestNow();
        if (now == 0 || now > MOST_FEWEST) {
            return STATE;
        }
        return heapTable(game.kind).bestHeap(game.lefts, game.row(), game.n);
    }

    public int worse() {
        if (!game.on || game.waits == NOTHING) {
            return STATE;
        }
        int behindYes = fewestBehind(true);
        int behindNo = fewestBehind(false);
        if (behindYes > MOST_FEWEST || behindNo > MOST_FEWEST) {
            return STATE;
        }
        return behindYes >= behindNo ? 1 : 0;
    }

    // ---- codes

    public int set(int heap) {
        if (!isHeap(heap)) {
            return BAD;
        }
        return code.add(heap) ? code.size : FULL;
    }

    public int drop() {
        return code.removeLatest() ? code.size : STATE;
    }

    public int word(int number) {
        return isNumber(number) ? code.wordOf(number) : BAD;
    }

    public int apart(int a, int b) {
        if (!isNumber(a) || !isNumber(b)) {
            return BAD;
        }
        return Integer.bitCount(code.wordOf(a) ^ code.wordOf(b));
    }

    public int serves(int n, int e) {
        if (!isCount(n) || !isLies(e)) {
            return BAD;
        }
        return code.allApart(n, 2 * e) ? 1 : 0;
    }

    public int read(int word, int n, int e) {
        if (!code.isWord(word) || !isCount(n) || !isLies(e)) {
            return BAD;
        }
        return code.onlyNear(word, n, e);
    }

    public int play(int word) {
        if (!code.isWord(word)) {
            return BAD;
        }
        if (!game.on) {
            return STATE;
        }
        game.waitFor(NOTHING);
        int answered = 0;
        while (answered < code.size && playOne(answered, word)) {
            answered++;
        }
        return answered;
    }

    public int told(int what) {
        switch (what) {
            case 0: return game.on ? 1 : 0;
            case 1: return game.kind;
            case 2: return game.n;
            case 3: return game.e;
            case 4: return game.answers;
            case 5: return game.waits;
            case 6: return code.size;
            case 7: return takenBack;
            default: return BAD_TOLD_LOWER;
        }
    }

    public long trace() {
        return traced.sum;
    }

    // ---- what numbers are as told

    private static boolean isKind(int kind) {
        return kind >= 0 && kind < KINDS;
    }

    private static boolean isNumber(int number) {
        return number >= 0 && number < MOST_NUMBERS;
    }

    private static boolean isCount(int n) {
        return n >= 1 && n <= MOST_NUMBERS;
    }

    private static boolean isLies(int e) {
        return e >= 0 && e <= MOST_LIES;
    }

    private static boolean isHeap(int heap) {
        return heap >= 0 && heap <= ALL_BITS;
    }

    // ---- what the calls share

    private int yesPrice(int kind) {
        return liars[kind].price(true, false, untold);
    }

    private int noPrice(int kind) {
        return liars[kind].price(false, true, untold);
    }

    private HeapTable heapTable(int kind) {
        HeapTable table = heapTables[kind];
        if (table == null) {
            int[] few = new int[STATES];
            AnyHeap anyHeap = new AnyHeap(few, yesPrice(kind), noPrice(kind));
            LeastHeap leastHeap = new LeastHeap(few, yesPrice(kind), noPrice(kind));
            table = new HeapTable(few, anyHeap, leastHeap);
            heapTables[kind] = table;
        }
        return table;
    }

    private SpanTable spanTable(int kind) {
        SpanTable table = spanTables[kind];
        if (table == null) {
            table = new SpanTable(yesPrice(kind), noPrice(kind));
            spanTables[kind] = table;
        }
        return table;
    }

    private int fewestNow() {
        return heapTable(game.kind).fewestOf(game.lefts, game.row(), game.n);
    }

    /** -1 for an answer that can't come, so that any that can come is the greater one. */
    private int fewestBehind(boolean yes) {
        if (game.layBehind(game.waits, yes) == 0) {
            return -1;
        }
        return heapTable(game.kind).fewestOf(game.lefts, game.rowBehind(), game.n);
    }

    private static int toldOrNone(int questions) {
        return questions > MOST_FEWEST ? NONE : questions;
    }

    private boolean playOne(int at, int word) {
        boolean yes = ((word >> at) & 1) == 1;
        return game.reply(game.within(code.question(at)), yes) > 0;
    }

    /** C(q, 0) + .. + C(q, left), and 0 for a NUMBER that is OUT. */
    private static long waysToLie(int q, int left) {
        long sum = 0;
        long ways = 1;
        for (int lies = 0; lies <= left; lies++) {
            sum += ways;
            ways = ways * (q - lies) / (lies + 1);
        }
        return sum;
    }

    /** What a count of NUMBERS with LEFT of level or more adds to the place of a STATE. */
    private static int placeOf(int level, int count) {
        int at = level * COUNTS + count;
        return at >= 0 && at < PLACES.length ? PLACES[at] : 0;
    }

    private static int leftAt(int[] lefts, int at) {
        return at >= 0 && at < lefts.length ? lefts[at] : OUT;
    }

    private static final class Tally {
        long sum = 0;
    }

    /** The KIND TRUE, over which none stands. */
    private static class Liar {
        int price(boolean yes, boolean in, Tally tally) {
            tally.sum += 1;
            return yes == in ? 0 : UNBEARABLE;
        }
    }

    private static class BothLiar extends Liar {
        int price(boolean yes, boolean in, Tally tally) {
            tally.sum += 10;
            int up = super.price(yes, in, tally);
            return up == UNBEARABLE ? 1 : up;
        }
    }

    private static final class YesLiar extends BothLiar {
        int price(boolean yes, boolean in, Tally tally) {
            tally.sum += 100;
            int up = super.price(yes, in, tally);
            return in && !yes ? UNBEARABLE : up;
        }
    }

    /** LEFT of each NUMBER, a row for every answer, so that an answer is taken back by forgetting its row. */
    private static final class Game {
        boolean on = false;
        int kind = 0;
        int n = 0;
        int e = 0;
        int answers = 0;
        int waits = NOTHING;
        private int yesPrice = 0;
        private int noPrice = 0;
        /** One row more than there may be answers: an answer is tried there before it is taken. */
        final int[] lefts = new int[(MOST_ANSWERS + 2) * MOST_NUMBERS];

        void start(int newKind, int numbers, int lies, int priceOfYes, int priceOfNo) {
            on = true;
            kind = newKind;
            n = Math.max(1, Math.min(numbers, MOST_NUMBERS));
            e = lies;
            answers = 0;
            waits = NOTHING;
            yesPrice = priceOfYes;
            noPrice = priceOfNo;
            for (int number = 0; number < n; number++) {
                lefts[number] = lies;
            }
        }

        /** Where the row of LEFT as it stands begins. */
        int row() {
            return answers * MOST_NUMBERS;
        }

        int rowBehind() {
            return row() + MOST_NUMBERS;
        }

        int within(int heap) {
            return heap & ((1 << n) - 1);
        }

        int leftOf(int number) {
            return number >= 0 && number < n ? lefts[row() + number] : OUT;
        }

        int countOf(int left) {
            int count = 0;
            for (int number = 0; number < n; number++) {
                if (leftOf(number) == left) {
                    count++;
                }
            }
            return count;
        }

        int standingIn(int heap) {
            int count = 0;
            for (int number = 0; number < n; number++) {
                if (((heap >> number) & 1) == 1 && leftOf(number) != OUT) {
                    count++;
                }
            }
            return count;
        }

        void waitFor(int heap) {
            waits = heap;
        }

        int reply(int heap, boolean yes) {
            int standing = layBehind(heap, yes);
            if (standing == 0) {
                return STATE;
            }
            if (answers >= MOST_ANSWERS) {
                return FULL;
            }
            answers++;
            waits = NOTHING;
            return standing;
        }

        void forgetLatest() {
            answers = Math.max(0, answers - 1);
            waits = NOTHING;
        }

        /** Lays LEFT as an answer would leave it into the row behind: how many are not OUT there. */
        int layBehind(int heap, boolean yes) {
            int behind = rowBehind();
            int standing = 0;
            for (int number = 0; number < n; number++) {
                int still = Math.max(OUT, leftOf(number) - priceFor(((heap >> number) & 1) == 1, yes));
                lefts[behind + number] = still;
                if (still != OUT) {
                    standing++;
                }
            }
            return standing;
        }

        private int priceFor(boolean in, boolean yes) {
            if (in == yes) {
                return 0;
            }
            return yes ? yesPrice : noPrice;
        }

        /** LEFT + 1 of each NUMBER as two bits: 0 is OUT. Only where spans are asked for does it fit. */
        int asDigits() {
            int digits = 0;
            for (int number = 0; number < n && number < SPAN_NUMBERS; number++) {
                digits |= Math.min(leftOf(number) + 1, MOST_DIGIT) << (2 * number);
            }
            return digits;
        }
    }

    /**
     * A walk over the heaps of a STATE by how many NUMBERS of each LEFT they have, for what the two
     * answers leave. A STATE is held as counts: have[level] NUMBERS have LEFT of level or more, and
     * taken[level] of them are in the heap.
     */
    private abstract static class HeapWalk {
        private final int[] few;
        private final int yesPrice;
        private final int noPrice;
        /** Zeros stand behind the last level, where a COST may reach. */
        final int[] have = new int[2 * LEVELS];
        final int[] taken = new int[2 * LEVELS];
        /** What FEWEST may be behind an answer. */
        private int goal = 0;

        HeapWalk(int[] table, int priceOfYes, int priceOfNo) {
            few = table;
            yesPrice = Math.max(1, Math.min(priceOfYes, LEVELS));
            noPrice = Math.max(1, Math.min(priceOfNo, LEVELS));
        }

        /** Whether the walk was ended by one of the heaps. */
        boolean walk(int mostBehind) {
            goal = mostBehind;
            return down(LEVELS - 1, 0, 0);
        }

        /** The levels above this one are chosen, and come to these places behind yes and no. */
        private boolean down(int level, int yesPlace, int noPlace) {
            if (level < 0 || level >= LEVELS) {
                return false;
            }
            int least = taken[level + 1];
            int size = have[level] - have[level + 1];
            int sparedByYes = have[level + yesPrice] - taken[level + yesPrice];
            int sparedByNo = have[level] + taken[level + noPrice];
            if (level == 0) {
                return last(yesPlace + least + sparedByYes, noPlace - least + sparedByNo, size);
            }
            for (int turn = 0; turn <= size; turn++) {
                int in = least + outward(turn, size);
                taken[level] = in;
                int afterYes = yesPlace + placeOf(level, in + sparedByYes);
                int afterNo = noPlace + placeOf(level, sparedByNo - in);
                if (down(level - 1, afterYes, afterNo)) {
                    return true;
                }
            }
            return false;
        }

        /**
         * NUMBERS of LEFT 0 are chosen last, out of so many: with each one that comes to the heap
         * the place behind yes is one further, and that behind no one nearer; and FEWEST never
         * falls from a place to the next one.
         */
        abstract boolean last(int yesPlace, int noPlace, int size);

        final boolean isBeyond(int place) {
            return place < 0 || place >= few.length || few[place] > goal;
        }

        /** From the middle of 0 .. of outward: a heap that serves mostly has about half. */
        private static int outward(int turn, int of) {
            int middle = of / 2;
            return (turn & 1) == 1 ? middle + (turn + 1) / 2 : middle - turn / 2;
        }
    }

    /** Ends at the first heap that serves. */
    private static final class AnyHeap extends HeapWalk {
        AnyHeap(int[] table, int priceOfYes, int priceOfNo) {
            super(table, priceOfYes, priceOfNo);
        }

        void hold(int zero, int one, int two, int three) {
            have[0] = zero;
            have[1] = one;
            have[2] = two;
            have[3] = three;
        }

        boolean last(int yesPlace, int noPlace, int size) {
            int in = (size + 1) / 2;
            while (in > 0 && isBeyond(yesPlace + in)) {
                in--;
            }
            while (in < size && isBeyond(noPlace - in) && !isBeyond(yesPlace + in)) {
                in++;
            }
            return !isBeyond(yesPlace + in) && !isBeyond(noPlace - in);
        }
    }

    /** Goes through all heaps that serve, for the one that is the least number. */
    private static final class LeastHeap extends HeapWalk {
        /** The bits of the lowest NUMBERS of a LEFT, by how many they are. */
        private final int[] lowest = new int[LEVELS * COUNTS];
        private int least = 0;

        LeastHeap(int[] table, int priceOfYes, int priceOfNo) {
            super(table, priceOfYes, priceOfNo);
        }

        int find(int[] lefts, int from, int n, int mostBehind) {
            for (int level = LEVELS - 1; level >= 0; level--) {
                have[level] = have[level + 1] + layLowest(lefts, from, n, level);
            }
            least = ALL_BITS;
            walk(mostBehind);
            return least;
        }

        /** Of heaps with as many of a LEFT the one that has the lowest NUMBERS is least: how many there are. */
        private int layLowest(int[] lefts, int from, int n, int level) {
            int count = 0;
            int bits = 0;
            for (int number = 0; number < n && number < MOST_NUMBERS; number++) {
                if (leftAt(lefts, from + number) == level) {
                    count++;
                    bits |= 1 << number;
                    lowest[level * COUNTS + count] = bits;
                }
            }
            return count;
        }

        boolean last(int yesPlace, int noPlace, int size) {
            int in = 0;
            while (in < size && isBeyond(noPlace - in)) {
                in++;
            }
            if (!isBeyond(noPlace - in) && !isBeyond(yesPlace + in)) {
                taken[0] = taken[1] + in;
                least = Math.min(least, lowestTaken());
            }
            return false;
        }

        private int lowestTaken() {
            int heap = 0;
            for (int level = 0; level < LEVELS; level++) {
                int count = taken[level] - taken[level + 1];
                if (count > 0 && count < COUNTS) {
                    heap |= lowest[level * COUNTS + count];
                }
            }
            return heap;
        }
    }

    /** FEWEST of the STATES of one KIND, by heaps of any kind, as far as a GAME has needed them. */
    private static final class HeapTable {
        private final int[] few;
        /** known[e]: with so many NUMBERS every STATE of LEFT 0 .. e is in the table. */
        private final int[] known = new int[LEVELS];
        private final AnyHeap anyHeap;
        private final LeastHeap leastHeap;

        /** The walks look into the same table that they help to fill. */
        HeapTable(int[] table, AnyHeap toLearn, LeastHeap toTell) {
            few = table;
            anyHeap = toLearn;
            leastHeap = toTell;
        }

        /** In the order of places: no count grows by an answer, so all that it can leave is known ahead. */
        void learn(int n, int e) {
            if (n > MOST_NUMBERS || e < 0 || e > MOST_LIES || known[e] >= n) {
                return;
            }
            int unknown = known[e] + 1;
            for (int three = 0; three <= (e < 3 ? 0 : n); three++) {
                for (int two = three; two <= (e < 2 ? 0 : n); two++) {
                    for (int one = two; one <= (e < 1 ? 0 : n); one++) {
                        for (int zero = Math.max(one, unknown); zero <= n; zero++) {
                            learnOne(zero, one, two, three);
                        }
                    }
                }
            }
            for (int lies = 0; lies <= e; lies++) {
                known[lies] = Math.max(known[lies], n);
            }
        }

        private void learnOne(int zero, int one, int two, int three) {
            int own = zero + placeOf(1, one) + placeOf(2, two) + placeOf(3, three);
            if (own < 0 || own >= few.length) {
                return;
            }
            if (zero <= 1) {
                few[own] = 0;
                return;
            }
            // FEWEST never falls when LEFT of a NUMBER rises: no STATE needs less than those just below it.
            int floor = 1;
            floor = Math.max(floor, zero > one ? fewAt(own - 1) : 0);
            floor = Math.max(floor, one > two ? fewAt(own - stepTo(1, one)) : 0);
            floor = Math.max(floor, two > three ? fewAt(own - stepTo(2, two)) : 0);
            floor = Math.max(floor, three > 0 ? fewAt(own - stepTo(3, three)) : 0);
            // A heap that has none or all of them leaves the STATE as it is behind one answer: it
            // is of no use, as long as the table tells ABOVE here.
            few[own] = ABOVE;
            anyHeap.hold(zero, one, two, three);
            int questions = floor;
            while (questions < ABOVE && !anyHeap.walk(questions - 1)) {
                questions++;
            }
            few[own] = questions;
        }

        private static int stepTo(int level, int count) {
            return placeOf(level, count) - placeOf(level, count - 1);
        }

        private int fewAt(int place) {
            return place >= 0 && place < few.length ? few[place] : ABOVE;
        }

        int fewestOf(int[] lefts, int from, int n) {
            int place = 0;
            for (int level = 0; level < LEVELS; level++) {
                int count = 0;
                for (int number = 0; number < n; number++) {
                    if (leftAt(lefts, from + number) >= level) {
                        count++;
                    }
                }
                place += placeOf(level, count);
            }
            return fewAt(place);
        }

        int bestHeap(int[] lefts, int from, int n) {
            return leastHeap.find(lefts, from, n, fewestOf(lefts, from, n) - 1);
        }
    }

    /**
     * FEWEST BY SPANS of rows of up to six NUMBERS of one KIND. A row is a number of two-bit digits,
     * LEFT + 1 each; an answer only lowers digits, so what it leaves stands ahead in the table.
     */
    private static final class SpanTable {
        private final int yesPrice;
        private final int noPrice;
        private final int[] few = new int[SPAN_ROWS];
        /** All rows below this one are in the table. */
        private int known = 0;

        SpanTable(int priceOfYes, int priceOfNo) {
            yesPrice = Math.min(priceOfYes, MOST_DIGIT);
            noPrice = Math.min(priceOfNo, MOST_DIGIT);
        }

        int fewestOf(int digits) {
            if (digits < 0 || digits >= SPAN_ROWS) {
                return ABOVE;
            }
            while (known <= digits && known < SPAN_ROWS) {
                // As in the table of heaps: a span of all is of no use.
                few[known] = ABOVE;
                few[known] = learned(known);
                known++;
            }
            return few[digits];
        }

        private int learned(int row) {
            int gap = lowestGap(row);
            if (row > gap) {
                // One that is OUT plays no part: the NUMBERS on both sides of it are neighbours.
                return fewAt((row & (gap - 1)) | ((row >> 2) & -gap));
            }
            // gap is 4 to the power of how many NUMBERS there are
            int numbers = Integer.bitCount(gap - 1) / 2;
            return numbers <= 1 ? 0 : leastQuestions(row, numbers);
        }

        private int leastQuestions(int row, int numbers) {
            int floor = 1;
            for (int number = 0; number < numbers; number++) {
                floor = Math.max(floor, fewAt(row - digitOne(number)));
            }
            int least = ABOVE;
            for (int first = 0; first < numbers && least >= floor; first++) {
                int span = 0;
                for (int last = first; last < numbers && least >= floor; last++) {
                    span |= digitOne(last);
                    least = Math.min(least, greaterBehind(row, span));
                }
            }
            return Math.min(ABOVE, least + 1);
        }

        private static int digitOne(int number) {
            return 1 << (2 * number);
        }

        private int greaterBehind(int row, int span) {
            int behindYes = fewAt(charged(row, ~span, yesPrice));
            int behindNo = fewAt(charged(row, span, noPrice));
            return Math.max(behindYes, behindNo);
        }

        private static int charged(int row, int who, int price) {
            int rest = row;
            for (int paid = 0; paid < price; paid++) {
                rest -= standing(rest) & who;
            }
            return rest;
        }

        /** Bit 0 of each digit that is not 0. */
        private static int standing(int row) {
            return (row | row >> 1) & DIGIT_ONES;
        }

        /** Bit 0 of the lowest digit that is 0; the digit beyond the last always is. */
        private static int lowestGap(int row) {
            int gaps = DIGIT_ONES & ~standing(row);
            return gaps & -gaps;
        }

        private int fewAt(int row) {
            return row >= 0 && row < SPAN_ROWS ? few[row] : ABOVE;
        }
    }

    private static final class Code {
        private final int[] questions = new int[MOST_QUESTIONS];
        private final int[] words = new int[MOST_NUMBERS];
        int size = 0;

        boolean add(int heap) {
            if (size >= MOST_QUESTIONS) {
                return false;
            }
            questions[size] = heap;
            for (int number = 0; number < MOST_NUMBERS; number++) {
                words[number] |= ((heap >> number) & 1) << size;
            }
            size++;
            return true;
        }

        boolean removeLatest() {
            if (size <= 0) {
                return false;
            }
            size--;
            for (int number = 0; number < MOST_NUMBERS; number++) {
                words[number] &= (1 << size) - 1;
            }
            return true;
        }

        int question(int at) {
            return at >= 0 && at < size ? questions[at] : 0;
        }

        boolean isWord(int bits) {
            return bits >= 0 && bits >> size == 0;
        }

        int wordOf(int number) {
            return number >= 0 && number < MOST_NUMBERS ? words[number] : 0;
        }

        boolean allApart(int n, int more) {
            for (int a = 0; a < n; a++) {
                int ofA = wordOf(a);
                for (int b = 0; b < a; b++) {
                    if (Integer.bitCount(ofA ^ wordOf(b)) <= more) {
                        return false;
                    }
                }
            }
            return true;
        }

        int onlyNear(int bits, int n, int most) {
            int near = NONE;
            for (int number = 0; number < n; number++) {
                if (Integer.bitCount(bits ^ wordOf(number)) <= most) {
                    if (near != NONE) {
                        return NONE;
                    }
                    near = number;
                }
            }
            return near;
        }
    }
}
