/** The boundary cases of promises 15 to 23: codes, and what is told of the object. */
public final class CodeBoundaryTest extends Boundary {
    public static void main(String[] args) {
        runAll(CodeBoundaryTest.class);
    }

    /** A CODE of so many QUESTIONS, each of which has NUMBER 1 alone. */
    private static Asked questions(int count) {
        Asked x = new Asked();
        for (int k = 0; k < count; k++) {
            x.set(2);
        }
        return x;
    }

    // ---- 15 set

    @Of(promise = 15, says = "A QUESTION (bits 0 .. 65535) comes to the CODE: how many it has")
    static void theEmptyAndTheFullHeap() {
        edges("set(heap)", Boundary::inTheMidst, Asked::set, 0, 65535, BAD);
        Asked x = new Asked();
        is("set(0)", x.set(0), 1);
        is("set(65535)", x.set(65535), 2);
        is("word(0)", x.word(0), 2);
        is("word(15)", x.word(15), 2);
    }

    @Of(promise = 15, says = "A QUESTION (bits 0 .. 65535) comes to the CODE: how many it has")
    static void theGameIsNotLookedAt() {
        Asked x = begun(BOTH, 2, 0);
        x.ask(1);
        is("set(65535) with two NUMBERS", x.set(65535), 1);
        is("what WAITS", x.told(5), 1);
        x.begin(TRUE, 16, 0);
        is("the CODE in another GAME", x.told(6), 1);
    }

    @Of(promise = 15, says = "BAD")
    static void aHeapBeyondBits0To15() {
        refused("set(65536) as the first", Boundary::asMade, x -> x.set(65536), BAD);
        refused("set(-1) as the first", Boundary::asMade, x -> x.set(-1), BAD);
        refused("set(65536 + 2)", Boundary::inTheMidst, x -> x.set(65538), BAD);
        refused("set(65536), BAD is ahead of FULL", Boundary::twelveQuestions, x -> x.set(65536), BAD);
        refused("set(-1), BAD is ahead of FULL", Boundary::twelveQuestions, x -> x.set(-1), BAD);
    }

    @Of(promise = 15, says = "FULL")
    static void theThirteenthIsRefused() {
        Asked x = questions(11);
        is("set(1), the twelfth", x.set(1), 12);
        is("set(1), the thirteenth", x.set(1), FULL);
        refused("set(0)", Boundary::twelveQuestions, y -> y.set(0), FULL);
        refused("set(65535)", Boundary::twelveQuestions, y -> y.set(65535), FULL);
    }

    @Of(promise = 15, says = "FULL")
    static void roomAgainBehindDrop() {
        Asked x = made(Boundary::twelveQuestions);
        x.drop();
        is("set(1), the twelfth anew", x.set(1), 12);
        is("word(0)", x.word(0), 2048);
        is("word(15)", x.word(15), 2047);
        is("set(1), the thirteenth", x.set(1), FULL);
    }

    // ---- 16 drop

    @Of(promise = 16, says = "The CODE's latest QUESTION is gone: how many are left")
    static void fromTwelveToNone() {
        Asked x = made(Boundary::twelveQuestions);
        for (int left = 11; left >= 0; left--) {
            is("drop() to " + left, x.drop(), left);
            is("word(15)", x.word(15), (1 << left) - 1);
            is("told(6)", x.told(6), left);
        }
        is("drop() of none", x.drop(), STATE);
    }

    @Of(promise = 16, says = "The CODE's latest QUESTION is gone: how many are left")
    static void nothingOfItComesBack() {
        Asked x = new Asked();
        x.set(65535);
        x.drop();
        is("word(0) of none", x.word(0), 0);
        is("word(15) of none", x.word(15), 0);
        is("set(0)", x.set(0), 1);
        is("word(0)", x.word(0), 0);
        is("word(15)", x.word(15), 0);
    }

    @Of(promise = 16, says = "STATE: there is none")
    static void dropOfNone() {
        refused("of a new object", Boundary::asMade, x -> x.drop(), STATE);
        refused("in a GAME", x -> { x.begin(BOTH, 4, 1); x.say(3, true); x.ask(1); }, x -> x.drop(), STATE);
        refused("behind the last", x -> { x.set(3); x.drop(); }, x -> x.drop(), STATE);
    }

    // ---- 17 word

    @Of(promise = 17, says = "THE WORD of a NUMBER 0 .. 15")
    static void wordOf0And15() {
        edges("word(number)", Boundary::inTheMidst, Asked::word, 0, 15, BAD);
        Asked x = made(Boundary::twelveQuestions);
        is("word(0)", x.word(0), 0);
        is("word(15)", x.word(15), 4095);
        x.begin(BOTH, 2, 0);
        is("word(15), beyond n of the GAME", x.word(15), 4095);
    }

    @Of(promise = 17, says = "BAD")
    static void wordOfNoNumber() {
        edges("word(number) of an empty CODE", Boundary::asMade, Asked::word, 0, 15, BAD);
        edges("word(number) of a full CODE", Boundary::twelveQuestions, Asked::word, 0, 15, BAD);
    }

    // ---- 18 apart

    @Of(promise = 18, says = "BAD")
    static void aAndBAtTheirEdges() {
        edges("apart(a, 3)", Boundary::inTheMidst, (x, a) -> x.apart(a, 3), 0, 15, BAD);
        edges("apart(3, b)", Boundary::inTheMidst, (x, b) -> x.apart(3, b), 0, 15, BAD);
        refused("apart(16, 16), of itself", Boundary::twelveQuestions, x -> x.apart(16, 16), BAD);
        refused("apart(-1, -1), of itself", Boundary::twelveQuestions, x -> x.apart(-1, -1), BAD);
    }

    @Of(promise = 18, says = "APART")
    static void fromNoneToTwelve() {
        is("apart(0, 15) of an empty CODE", new Asked().apart(0, 15), 0);
        Asked x = made(Boundary::twelveQuestions);
        is("apart(0, 15)", x.apart(0, 15), 12);
        is("apart(15, 0)", x.apart(15, 0), 12);
        is("apart(15, 15)", x.apart(15, 15), 0);
        is("apart(0, 0)", x.apart(0, 0), 0);
    }

    // ---- 19 serves

    @Of(promise = 19, says = "Whether the CODE SERVES n (1 .. 16) and e (0 .. 3): 1, 0")
    static void apartByOneMoreThan2E() {
        for (int e = 0; e <= 3; e++) {
            is("serves(2, " + e + "), APART by 2 e", questions(2 * e).serves(2, e), 0);
            is("serves(2, " + e + "), APART by 2 e + 1", questions(2 * e + 1).serves(2, e), 1);
        }
    }

    @Of(promise = 19, says = "Whether the CODE SERVES n (1 .. 16) and e (0 .. 3): 1, 0")
    static void oneNumberAndSixteen() {
        is("serves(1, 3) of an empty CODE", new Asked().serves(1, 3), 1);
        is("serves(2, 0) of an empty CODE", new Asked().serves(2, 0), 0);
        Asked x = made(Boundary::twelveQuestions);
        is("serves(16, 1)", x.serves(16, 1), 1);
        is("serves(16, 2)", x.serves(16, 2), 0);
        x.drop();
        is("serves(16, 1), 8 and 0 are APART by 2", x.serves(16, 1), 0);
        is("serves(9, 1), 8 and 0 are APART by 2", x.serves(9, 1), 0);
        is("serves(8, 1)", x.serves(8, 1), 1);
    }

    @Of(promise = 19, says = "Whether the CODE SERVES n (1 .. 16) and e (0 .. 3): 1, 0")
    static void theLastTwoNumbersCountToo() {
        Asked x = new Asked();
        x.set(0xAAAA & 0x7FFF);
        x.set(0xCCCC);
        x.set(0xF0F0);
        x.set(0xFF00);
        is("word(14), word(15)", x.apart(14, 15), 0);
        is("serves(16, 0)", x.serves(16, 0), 0);
        is("serves(15, 0)", x.serves(15, 0), 1);
    }

    @Of(promise = 19, says = "BAD")
    static void servesNAndEAtTheirEdges() {
        edges("serves(n, 0)", Boundary::inTheMidst, (x, n) -> x.serves(n, 0), 1, 16, BAD);
        edges("serves(2, e)", Boundary::inTheMidst, (x, e) -> x.serves(2, e), 0, 3, BAD);
        edges("serves(n, 3) of an empty CODE", Boundary::asMade, (x, n) -> x.serves(n, 3), 1, 16, BAD);
        // 2 e of these wraps around to 0 and to -2.
        refused("serves(2, 1 << 31)", Boundary::twelveQuestions, x -> x.serves(2, 1 << 31), BAD);
        refused("serves(2, 2^31 - 1)", Boundary::twelveQuestions, x -> x.serves(2, Integer.MAX_VALUE), BAD);
    }

    // ---- 20 read

    @Of(promise = 20, says = "BAD: word below 0 or beyond its QUESTIONS, n, e")
    static void theGreatestWordOfEveryCode() {
        for (int count = 0; count <= 12; count++) {
            int of = count;
            edges("read(word, 2, 1) of " + count, x -> {
                for (int k = 0; k < of; k++) {
                    x.set(2);
                }
            }, (x, word) -> x.read(word, 2, 1), 0, (1 << count) - 1, BAD);
        }
    }

    @Of(promise = 20, says = "BAD: word below 0 or beyond its QUESTIONS, n, e")
    static void readNAndEAtTheirEdges() {
        edges("read(0, n, 0)", Boundary::inTheMidst, (x, n) -> x.read(0, n, 0), 1, 16, BAD);
        edges("read(0, 2, e)", Boundary::inTheMidst, (x, e) -> x.read(0, 2, e), 0, 3, BAD);
        refused("read(8, 17, 4), all three", Boundary::inTheMidst, x -> x.read(8, 17, 4), BAD);
    }

    @Of(promise = 20, says = "BAD: word below 0 or beyond its QUESTIONS, n, e")
    static void beyondAsSoonAsOneIsGone() {
        Asked x = made(Boundary::twelveQuestions);
        is("read(4095, 16, 0)", x.read(4095, 16, 0), 15);
        x.drop();
        is("read(4095, 16, 0) with eleven", x.read(4095, 16, 0), BAD);
        is("read(2047, 16, 0) with eleven", x.read(2047, 16, 0), 15);
    }

    @Of(promise = 20, says = "READ")
    static void noneOneAndTwo() {
        Asked x = made(Boundary::twelveQuestions);
        is("one bit off, e 0", x.read(0xFFE, 16, 0), NONE);
        is("one bit off, e 1", x.read(0xFFE, 16, 1), 15);
        is("the NUMBER is n", x.read(0xFFF, 15, 1), NONE);
        is("the NUMBER is n - 1", x.read(0xEEE, 15, 1), 14);
        is("two within e 2", x.read(0x001, 2, 2), NONE);
        is("an empty CODE, one NUMBER", new Asked().read(0, 1, 3), 0);
        is("an empty CODE, sixteen", new Asked().read(0, 16, 0), NONE);
    }

    // ---- 21 play

    @Of(promise = 21, says = "BAD: word")
    static void theGreatestWordThatIsPlayed() {
        edges("play(word) of three", Boundary::inTheMidst, Asked::play, 0, 7, BAD);
        edges("play(word) of twelve", x -> { twelveQuestions(x); x.begin(BOTH, 16, 1); x.ask(9); }, Asked::play, 0, 4095, BAD);
        edges("play(word) of none", x -> { x.begin(BOTH, 4, 1); x.ask(3); }, Asked::play, 0, 0, BAD);
    }

    @Of(promise = 21, says = "STATE: no GAME")
    static void playWithoutGame() {
        refused("play(0)", Boundary::codeAlone, x -> x.play(0), STATE);
        refused("play(7)", Boundary::codeAlone, x -> x.play(7), STATE);
        refused("play(8), BAD is ahead", Boundary::codeAlone, x -> x.play(8), BAD);
        refused("play(-1), BAD is ahead", Boundary::codeAlone, x -> x.play(-1), BAD);
        refused("play(0) of an empty CODE", Boundary::asMade, x -> x.play(0), STATE);
        refused("play(1) of an empty CODE", Boundary::asMade, x -> x.play(1), BAD);
    }

    @Of(promise = 21, says = "What WAITS then: nothing")
    static void nothingWaitsHoweverItEnded() {
        Asked x = begun(BOTH, 4, 1);
        x.ask(3);
        is("play(0) of an empty CODE", x.play(0), 0);
        is("what WAITS behind none", x.told(5), -1);
        x.set(15);
        x.ask(3);
        is("play(1)", x.play(1), 1);
        is("what WAITS behind all", x.told(5), -1);
        x.begin(TRUE, 4, 0);
        x.ask(3);
        is("play(0), which can't come", x.play(0), 0);
        is("what WAITS behind the end", x.told(5), -1);
        is("answer(true)", x.answer(true), STATE);
    }

    @Of(promise = 21, says = "it ends ahead of one that answer() would refuse")
    static void itEndsAheadOfWhatWouldPutAllOut() {
        Asked x = begun(TRUE, 4, 0);
        x.set(15);
        x.set(1);
        x.set(1);
        x.set(15);
        is("play(1111): none is refused", x.play(15), 4);
        x.begin(TRUE, 4, 0);
        is("play(1011): the third is refused", x.play(11), 2);
        is("answers", x.told(4), 2);
        is("found()", x.found(), 0);
        x.begin(TRUE, 4, 0);
        is("play(1110): the first is refused", x.play(14), 0);
        is("answers", x.told(4), 0);
        x.begin(TRUE, 4, 0);
        is("play(0111): the last is refused", x.play(7), 3);
    }

    @Of(promise = 21, says = "it ends ahead of one that answer() would refuse")
    static void itEndsAtSixty() {
        Asked x = made(Boundary::sixtyAnswers);
        x.set(65535);
        x.set(65535);
        is("play(3) at sixty", x.play(3), 0);
        x.back();
        is("play(3) at fifty-nine", x.play(3), 1);
        x.back();
        x.back();
        is("play(3) at fifty-eight", x.play(3), 2);
        is("answers", x.told(4), 60);
        x.ask(3);
        is("play(0) at sixty, which would be a LIE", x.play(0), 0);
        is("what WAITS", x.told(5), -1);
    }

    @Of(promise = 21, says = "(its NUMBERS beyond n left out)")
    static void aHeapOfNoneWithinN() {
        Asked x = begun(BOTH, 3, 0);
        x.set(0xFFF8);
        is("yes to a heap that is empty then", x.play(1), 0);
        is("no to it", x.play(0), 1);
        is("all stand", x.state(0), 3);
        x.begin(BOTH, 4, 0);
        is("yes to a heap of NUMBER 3 then", x.play(1), 1);
        is("found()", x.found(), 3);
    }

    @Of(promise = 21, says = "each answered as its bit of a word tells")
    static void bit0OfTheFirstToBit11OfTheLast() {
        Asked x = begun(TRUE, 16, 0);
        twelveQuestions(x);
        is("play(word(10))", x.play(0xAAA), 12);
        is("found()", x.found(), 10);
        x.begin(BOTH, 16, 3);
        is("play, the last a LIE", x.play(0x2AA), 12);
        is("left(10)", x.left(10), 2);
        is("left(2)", x.left(2), 1);
    }

    // ---- 22 told

    @Of(promise = 22, says = "BAD is told as -2")
    static void what0To7() {
        edges("told(what) of a new object", Boundary::asMade, Asked::told, 0, 7, -2);
        edges("told(what) in the midst", Boundary::inTheMidst, Asked::told, 0, 7, -2);
    }

    @Of(promise = 22, says = "0 whether there is a GAME")
    static void aRefusedBeginIsNoGame() {
        Asked x = new Asked();
        is("told(0)", x.told(0), 0);
        x.begin(BOTH, 17, 1);
        is("told(0) behind a refused begin", x.told(0), 0);
        x.begin(BOTH, 16, 1);
        is("told(0) behind begin", x.told(0), 1);
        x.begin(BOTH, 17, 1);
        is("told(0) behind a refused begin in a GAME", x.told(0), 1);
        is("told(1)", x.told(1), 1);
        is("told(2)", x.told(2), 16);
        is("told(3)", x.told(3), 1);
    }

    @Of(promise = 22, says = "5 what WAITS (-1: nothing)")
    static void theEmptyHeapIsNotNothing() {
        Asked x = new Asked();
        is("told(5) without GAME", x.told(5), -1);
        x.begin(BOTH, 16, 1);
        is("told(5) behind begin", x.told(5), -1);
        x.ask(0);
        is("told(5), the empty heap", x.told(5), 0);
        x.ask(65535);
        is("told(5), the full heap", x.told(5), 65535);
        x.answer(true);
        is("told(5) behind its answer", x.told(5), -1);
    }

    @Of(promise = 22, says = "4 answers")
    static void answersFrom0To60() {
        Asked x = new Asked();
        is("told(4) without GAME", x.told(4), 0);
        sixtyAnswers(x);
        is("told(4)", x.told(4), 60);
        x.say(7, true);
        is("told(4) behind a refused one", x.told(4), 60);
    }

    @Of(promise = 22, says = "6 QUESTIONS of the CODE")
    static void questionsFrom0To12() {
        Asked x = new Asked();
        x.drop();
        is("told(6), none", x.told(6), 0);
        twelveQuestions(x);
        x.set(1);
        is("told(6), full", x.told(6), 12);
    }

    @Of(promise = 22, says = "7 answers back() took back ever")
    static void takenBackOverAllGames() {
        Asked x = new Asked();
        x.back();
        is("told(7), one that was refused", x.told(7), 0);
        for (int game = 1; game <= 3; game++) {
            x.begin(BOTH, 4, 1);
            x.say(3, true);
            x.back();
            x.back();
            is("told(7) in GAME " + game, x.told(7), game);
        }
        x.set(15);
        x.play(1);
        x.back();
        is("told(7), one that play() gave", x.told(7), 4);
        x.begin(BOTH, 4, 1);
        is("told(7) behind begin", x.told(7), 4);
    }

    // ---- 23 trace

    @Of(promise = 23, says = "THE TRACE")
    static void onlyCostComesToIt() {
        Asked x = new Asked();
        is("trace() of a new object", x.trace(), 0);
        inTheMidst(x);
        is("trace() behind one cost(2, ..)", x.trace(), 111);
        x.begin(YES, 6, 2);
        x.say(3, true);
        x.fewest();
        x.spans();
        x.best();
        x.ask(1);
        x.worse();
        x.play(7);
        x.read(7, 8, 1);
        x.serves(8, 1);
        is("trace() behind other calls", x.trace(), 111);
        onlyTells("trace()", Boundary::inTheMidst, Asked::trace);
    }

    @Of(promise = 23, says = "THE TRACE")
    static void refusedCostsDoNotCome() {
        Asked x = new Asked();
        x.cost(-1, true, true);
        x.cost(3, true, true);
        x.cost(Integer.MAX_VALUE, true, true);
        is("trace()", x.trace(), 0);
        x.cost(TRUE, true, true);
        x.cost(BOTH, false, true);
        x.cost(YES, false, true);
        is("trace() behind one of each KIND", x.trace(), 1 + 11 + 111);
    }
}
