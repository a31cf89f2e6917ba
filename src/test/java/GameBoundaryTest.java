/** The boundary cases of promises 1 to 14: a new object, and a GAME. */
public final class GameBoundaryTest extends Boundary {
    public static void main(String[] args) {
        runAll(GameBoundaryTest.class);
    }

    // ---- 1 a new object

    @Of(promise = 1, says = "No GAME")
    static void everyCallOfAGameIsRefusedWithoutOne() {
        refused("ask(0)", Boundary::asMade, x -> x.ask(0), STATE);
        refused("answer(true)", Boundary::asMade, x -> x.answer(true), STATE);
        refused("answer(false)", Boundary::asMade, x -> x.answer(false), STATE);
        refused("back()", Boundary::asMade, x -> x.back(), STATE);
        refused("left(0)", Boundary::asMade, x -> x.left(0), -3);
        refused("state(0)", Boundary::asMade, x -> x.state(0), STATE);
        refused("found()", Boundary::asMade, x -> x.found(), STATE);
        refused("fewest()", Boundary::asMade, x -> x.fewest(), STATE);
        refused("spans()", Boundary::asMade, x -> x.spans(), STATE);
        refused("weight(0)", Boundary::asMade, x -> x.weight(0), -1);
        refused("best()", Boundary::asMade, x -> x.best(), STATE);
        refused("worse()", Boundary::asMade, x -> x.worse(), STATE);
        refused("play(0)", Boundary::asMade, x -> x.play(0), STATE);
        is("told(0)", new Asked().told(0), 0);
    }

    @Of(promise = 1, says = "a CODE without QUESTIONS")
    static void theEmptyCode() {
        Asked x = new Asked();
        is("told(6)", x.told(6), 0);
        is("word(0)", x.word(0), 0);
        is("word(15)", x.word(15), 0);
        is("apart(0, 15)", x.apart(0, 15), 0);
        is("serves(1, 3)", x.serves(1, 3), 1);
        is("serves(2, 0)", x.serves(2, 0), 0);
        is("read(0, 1, 0)", x.read(0, 1, 0), 0);
        is("read(0, 2, 0)", x.read(0, 2, 0), NONE);
        is("read(1, 1, 0)", x.read(1, 1, 0), BAD);
        is("drop()", x.drop(), STATE);
    }

    @Of(promise = 1, says = "No GAME")
    static void nothingComesFromAnotherObject() {
        Asked other = made(Boundary::inTheMidst);
        is("the other's GAME", other.told(0), 1);
        same("an object made behind another", new Asked(), new Asked());
        Asked x = new Asked();
        made(Boundary::inTheMidst);
        is("told(0)", x.told(0), 0);
        is("told(6)", x.told(6), 0);
        is("trace()", x.trace(), 0);
    }

    // ---- 2 begin

    @Of(promise = 2, says = "A new GAME, in place of another one: FEWEST of it")
    static void nothingOfTheGameAheadIsLeft() {
        Asked x = made(Boundary::inTheMidst);
        is("begin(2, 3, 1)", x.begin(YES, 3, 1), begun(YES, 3, 1).fewest());
        is("answers", x.told(4), 0);
        is("what WAITS", x.told(5), -1);
        is("back()", x.back(), STATE);
        is("answer(true)", x.answer(true), STATE);
        for (int number = 0; number < 3; number++) {
            is("left(" + number + ")", x.left(number), 1);
        }
        is("left(3), a NUMBER of the GAME ahead", x.left(3), -2);
        is("taken back ever", x.told(7), 1);
        is("QUESTIONS of the CODE", x.told(6), 3);
        is("trace()", x.trace(), 111);
    }

    @Of(promise = 2, says = "A new GAME, in place of another one: FEWEST of it")
    static void aFullGameIsReplacedToo() {
        Asked x = made(Boundary::sixtyAnswers);
        is("begin(1, 3, 1)", x.begin(BOTH, 3, 1), 5);
        is("an answer", x.say(1, true), 3);
        is("answers", x.told(4), 1);
    }

    @Of(promise = 2, says = "A new GAME, in place of another one: FEWEST of it")
    static void aGameAboveTwelveIsAGame() {
        Asked x = new Asked();
        is("begin(1, 16, 3)", x.begin(BOTH, 16, 3), NONE);
        is("told(0)", x.told(0), 1);
        is("told(2)", x.told(2), 16);
        is("left(15)", x.left(15), 3);
    }

    @Of(promise = 2, says = "(TRUE: e is not looked at, and 0")
    static void eOfTrueMayBeAnything() {
        for (int e : new int[] {-1, 0, 3, 4, Integer.MIN_VALUE, Integer.MAX_VALUE}) {
            Asked x = new Asked();
            is("begin(0, 6, " + e + ")", x.begin(TRUE, 6, e), 3);
            is("told(3)", x.told(3), 0);
            is("left(5)", x.left(5), 0);
            is("spans()", x.spans(), 3);
        }
    }

    @Of(promise = 2, says = "BAD")
    static void kindNAndEAtTheirEdges() {
        edges("begin(kind, 4, 1)", Boundary::inTheMidst, (x, kind) -> x.begin(kind, 4, 1), 0, 2, BAD);
        edges("begin(0, n, 0)", Boundary::inTheMidst, (x, n) -> x.begin(TRUE, n, 0), 1, 16, BAD);
        edges("begin(1, n, 3)", Boundary::inTheMidst, (x, n) -> x.begin(BOTH, n, 3), 1, 16, BAD);
        edges("begin(2, n, 3)", Boundary::inTheMidst, (x, n) -> x.begin(YES, n, 3), 1, 16, BAD);
        edges("begin(1, 16, e)", Boundary::inTheMidst, (x, e) -> x.begin(BOTH, 16, e), 0, 3, BAD);
        edges("begin(2, 1, e)", Boundary::inTheMidst, (x, e) -> x.begin(YES, 1, e), 0, 3, BAD);
    }

    @Of(promise = 2, says = "BAD")
    static void noGameBeginsByARefusedOne() {
        refused("begin(3, 4, 1)", Boundary::codeAlone, x -> x.begin(3, 4, 1), BAD);
        refused("begin(0, 0, 0)", Boundary::codeAlone, x -> x.begin(TRUE, 0, 0), BAD);
        refused("begin(1, 4, 4)", Boundary::codeAlone, x -> x.begin(BOTH, 4, 4), BAD);
    }

    // ---- 3 cost

    @Of(promise = 3, says = "BAD")
    static void costOfKinds0To2AndNoOther() {
        edges("cost(kind, true, false)", Boundary::asMade, (x, kind) -> x.cost(kind, true, false), 0, 2, BAD);
        edges("cost(kind, false, true)", Boundary::inTheMidst, (x, kind) -> x.cost(kind, false, true), 0, 2, BAD);
    }

    @Of(promise = 3, says = "COST of an answer of a KIND of LIAR for a NUMBER in the heap, or not")
    static void costNeedsNoGameAndHeedsNone() {
        is("cost(2, false, true) without GAME", new Asked().cost(YES, false, true), 9);
        is("cost(2, false, true) in a GAME of TRUE", begun(TRUE, 4, 0).cost(YES, false, true), 9);
        is("cost(0, true, false) in a GAME of BOTH", begun(BOTH, 4, 1).cost(TRUE, true, false), 9);
        Asked x = made(Boundary::inTheMidst);
        x.cost(BOTH, true, false);
        is("what WAITS then", x.told(5), 6);
        is("answers then", x.told(4), 2);
    }

    // ---- 4 ask

    @Of(promise = 4, says = "A question")
    static void anyNumberOfQuestionsMayBeAsked() {
        Asked x = begun(BOTH, 5, 1);
        for (int heap = 0; heap < 32; heap++) {
            is("ask(" + heap + ")", x.ask(heap), Integer.bitCount(heap));
            is("told(5)", x.told(5), heap);
        }
        is("none was answered", x.told(4), 0);
        is("ask(7) at sixty answers", made(Boundary::sixtyAnswers).ask(7), 3);
    }

    @Of(promise = 4, says = "BAD: bits beyond n")
    static void theHighestHeapOfEveryN() {
        for (int n = 1; n <= 16; n++) {
            int of = n;
            edges("ask(heap) of " + n, x -> { x.begin(BOTH, of, 1); x.ask(1); }, Asked::ask, 0, (1 << n) - 1, BAD);
        }
    }

    @Of(promise = 4, says = "BAD: bits beyond n")
    static void aBitBeyondAmongOthers() {
        refused("ask(32 + 3) of five", Boundary::inTheMidst, x -> x.ask(35), BAD);
        refused("ask(65535) of five", Boundary::inTheMidst, x -> x.ask(65535), BAD);
        refused("ask(65536) of sixteen", x -> x.begin(YES, 16, 1), x -> x.ask(65536), BAD);
        refused("ask(-65536) of five", Boundary::inTheMidst, x -> x.ask(-65536), BAD);
    }

    @Of(promise = 4, says = "STATE: no GAME")
    static void askWithoutGame() {
        refused("ask(0)", Boundary::codeAlone, x -> x.ask(0), STATE);
        refused("ask(65535)", Boundary::codeAlone, x -> x.ask(65535), STATE);
        refused("ask(65536), BAD is ahead", Boundary::codeAlone, x -> x.ask(65536), BAD);
        refused("ask(-1), BAD is ahead", Boundary::codeAlone, x -> x.ask(-1), BAD);
    }

    @Of(promise = 4, says = "it WAITS (one that did no more): how many NUMBERS it has that are not OUT")
    static void emptyFullAndOutHeaps() {
        Asked x = begun(TRUE, 16, 0);
        is("ask(0)", x.ask(0), 0);
        is("ask(65535)", x.ask(65535), 16);
        x.say(1, false);
        is("ask(65535), one is OUT", x.ask(65535), 15);
        is("ask(1), of one that is OUT", x.ask(1), 0);
        is("told(5)", x.told(5), 1);
        is("no answer came", x.told(4), 1);
    }

    @Of(promise = 4, says = "it WAITS (one that did no more): how many NUMBERS it has that are not OUT")
    static void theLaterQuestionIsAnswered() {
        Asked x = begun(TRUE, 4, 0);
        x.ask(3);
        x.ask(8);
        is("told(5)", x.told(5), 8);
        is("answer(true)", x.answer(true), 1);
        is("found()", x.found(), 3);
        is("answers", x.told(4), 1);
    }

    @Of(promise = 4, says = "it WAITS (one that did no more): how many NUMBERS it has that are not OUT")
    static void oneAtLeftZeroIsNotOut() {
        Asked x = begun(BOTH, 3, 1);
        x.say(1, true);
        is("ask(7), two of LEFT 0", x.ask(7), 3);
    }

    // ---- 5 answer

    @Of(promise = 5, says = "STATE: no GAME, nothing WAITS, or all would be OUT")
    static void answerWithoutGame() {
        refused("answer(true)", Boundary::codeAlone, x -> x.answer(true), STATE);
        refused("answer(false)", Boundary::codeAlone, x -> x.answer(false), STATE);
    }

    @Of(promise = 5, says = "STATE: no GAME, nothing WAITS, or all would be OUT")
    static void answerWhereNothingWaits() {
        refused("behind begin", x -> x.begin(BOTH, 4, 1), x -> x.answer(true), STATE);
        refused("behind an answer", x -> { x.begin(BOTH, 4, 1); x.say(3, true); }, x -> x.answer(true), STATE);
        refused("behind back", x -> { inTheMidst(x); x.back(); }, x -> x.answer(true), STATE);
        refused("behind play", x -> { inTheMidst(x); x.play(0); }, x -> x.answer(false), STATE);
        refused("behind a refused ask", x -> { x.begin(BOTH, 4, 1); x.ask(16); }, x -> x.answer(true), STATE);
    }

    @Of(promise = 5, says = "STATE: no GAME, nothing WAITS, or all would be OUT")
    static void answerThatWouldPutAllOut() {
        refused("no to all, TRUE", x -> { x.begin(TRUE, 4, 0); x.ask(15); }, x -> x.answer(false), STATE);
        refused("yes to none, TRUE", x -> { x.begin(TRUE, 4, 0); x.ask(0); }, x -> x.answer(true), STATE);
        refused("no to all, YES with lies left", x -> { x.begin(YES, 4, 3); x.ask(15); }, x -> x.answer(false), STATE);
        refused("no to all, BOTH without lies", x -> { x.begin(BOTH, 4, 0); x.ask(15); }, x -> x.answer(false), STATE);
        refused("yes to one that is OUT", x -> { x.begin(TRUE, 2, 0); x.say(1, true); x.ask(2); }, x -> x.answer(true), STATE);
    }

    @Of(promise = 5, says = "STATE: no GAME, nothing WAITS, or all would be OUT")
    static void theLastLieOfAllIsTakenAndOneMoreIsNot() {
        for (int kind = BOTH; kind <= YES; kind++) {
            for (int e = 1; e <= 3; e++) {
                Asked x = begun(kind, 2, e);
                for (int lies = 1; lies <= e; lies++) {
                    is("yes to none, LIE " + lies + " of " + e, x.say(0, true), 2);
                }
                is("yes to none, one LIE more", x.say(0, true), STATE);
                is("it WAITS still", x.told(5), 0);
                is("no to none", x.answer(false), 2);
            }
        }
    }

    @Of(promise = 5, says = "FULL: 60 answers")
    static void theSixtiethIsTakenAndNoOther() {
        Asked x = begun(BOTH, 2, 0);
        for (int k = 1; k <= 60; k++) {
            is("answer " + k, x.say(3, true), 2);
        }
        is("told(4)", x.told(4), 60);
        is("answer 61", x.say(3, true), FULL);
        is("told(4) then", x.told(4), 60);
        is("told(5) then", x.told(5), 3);
    }

    @Of(promise = 5, says = "FULL: 60 answers")
    static void nothingChangesAtSixty() {
        refused("yes", x -> { sixtyAnswers(x); x.ask(3); }, x -> x.answer(true), FULL);
        refused("no", x -> { sixtyAnswers(x); x.ask(4); }, x -> x.answer(false), FULL);
        refused("one that puts some OUT", x -> { sixtyAnswers(x); x.ask(1); }, x -> x.answer(true), FULL);
    }

    @Of(promise = 5, says = "FULL: 60 answers")
    static void stateIsAheadOfFull() {
        refused("nothing WAITS", Boundary::sixtyAnswers, x -> x.answer(true), STATE);
        refused("all would be OUT", x -> {
            x.begin(YES, 2, 1);
            for (int k = 1; k <= 60; k++) {
                x.say(3, true);
            }
            x.ask(3);
        }, x -> x.answer(false), STATE);
    }

    @Of(promise = 5, says = "FULL: 60 answers")
    static void roomAgainBehindBack() {
        Asked x = made(Boundary::sixtyAnswers);
        is("back()", x.back(), 59);
        is("the sixtieth anew", x.say(1, true), 2);
        is("answers", x.told(4), 60);
        is("one more", x.say(1, true), FULL);
    }

    @Of(promise = 5, says = "The answer to what WAITS: how many NUMBERS are not OUT then")
    static void itWaitsOnceAnsweredNoMore() {
        Asked x = begun(TRUE, 16, 0);
        x.ask(1);
        is("answer(false)", x.answer(false), 15);
        is("told(5)", x.told(5), -1);
        is("answer(false) again", x.answer(false), STATE);
        is("answers", x.told(4), 1);
    }

    // ---- 6 back

    @Of(promise = 6, says = "STATE: none")
    static void backWithoutAnswers() {
        refused("no GAME", Boundary::codeAlone, x -> x.back(), STATE);
        refused("behind begin", x -> x.begin(BOTH, 4, 1), x -> x.back(), STATE);
        refused("one WAITS, none was answered", x -> { x.begin(BOTH, 4, 1); x.ask(3); }, x -> x.back(), STATE);
        refused("all were taken back", x -> { x.begin(BOTH, 4, 1); x.say(3, true); x.back(); }, x -> x.back(), STATE);
        refused("a new GAME has none", x -> { inTheMidst(x); x.begin(BOTH, 5, 2); }, x -> x.back(), STATE);
    }

    @Of(promise = 6, says = "The latest answer is as if it had not been")
    static void fromSixtyToNone() {
        Asked x = begun(BOTH, 3, 3);
        for (int k = 1; k <= 60; k++) {
            x.say(k <= 3 ? 3 : k == 60 ? 3 : 7, true);
        }
        is("left(2) at sixty", x.left(2), -1);
        is("back()", x.back(), 59);
        is("left(2), OUT no more", x.left(2), 0);
        for (int k = 58; k >= 0; k--) {
            is("back() to " + k, x.back(), k);
            is("left(2) with " + k, x.left(2), k >= 3 ? 0 : 3 - k);
        }
        is("back() with none", x.back(), STATE);
        is("told(7)", x.told(7), 60);
    }

    @Of(promise = 6, says = "The latest answer is as if it had not been")
    static void whatOneAnswerPutOutComesBackAsItWas() {
        Asked x = begun(YES, 4, 3);
        x.say(1, true);
        x.say(6, false);
        is("left(1), OUT", x.left(1), -1);
        x.back();
        is("left(0)", x.left(0), 3);
        is("left(1)", x.left(1), 2);
        is("found()", x.found(), NONE);
    }

    @Of(promise = 6, says = "nothing WAITS: how many are left")
    static void aQuestionThatWaitedIsGone() {
        Asked x = made(Boundary::inTheMidst);
        is("told(5) ahead", x.told(5), 6);
        is("back()", x.back(), 1);
        is("told(5) behind", x.told(5), -1);
        is("answer(true)", x.answer(true), STATE);
    }

    // ---- 7 left

    @Of(promise = 7, says = "LEFT of a NUMBER (-1: OUT)")
    static void from3ToOut() {
        Asked x = begun(BOTH, 16, 3);
        for (int left = 3; left >= -1; left--) {
            is("left(15)", x.left(15), left);
            is("left(0)", x.left(0), 3);
            x.say(0x7FFF, true);
        }
        is("left(15) behind more", x.left(15), -1);
    }

    @Of(promise = 7, says = "BAD is told as -2, STATE as -3")
    static void numbersBeyondTheGame() {
        for (int n : new int[] {1, 5, 15, 16}) {
            edges("left(number) of " + n, x -> x.begin(BOTH, n, 2), Asked::left, 0, n - 1, -2);
        }
        refused("left(15) of five", Boundary::inTheMidst, x -> x.left(15), -2);
    }

    @Of(promise = 7, says = "BAD is told as -2, STATE as -3")
    static void leftWithoutGame() {
        refused("left(0)", Boundary::codeAlone, x -> x.left(0), -3);
        refused("left(15)", Boundary::codeAlone, x -> x.left(15), -3);
        refused("left(16), BAD is ahead", Boundary::codeAlone, x -> x.left(16), -2);
        refused("left(-1), BAD is ahead", Boundary::codeAlone, x -> x.left(-1), -2);
    }

    // ---- 8 state

    @Of(promise = 8, says = "BAD: i 0 .. 3")
    static void i0To3() {
        edges("state(i)", Boundary::inTheMidst, Asked::state, 0, 3, BAD);
        edges("state(i) of TRUE", x -> x.begin(TRUE, 4, 0), Asked::state, 0, 3, BAD);
    }

    @Of(promise = 8, says = "How many NUMBERS have LEFT i")
    static void noneAboveEAndNoneThatIsOut() {
        Asked x = begun(TRUE, 16, 0);
        is("state(0)", x.state(0), 16);
        is("state(1), above e", x.state(1), 0);
        is("state(3), above e", x.state(3), 0);
        x.say(1, true);
        is("state(0), fifteen are OUT", x.state(0), 1);
        x = begun(BOTH, 16, 3);
        is("state(3)", x.state(3), 16);
        is("state(0)", x.state(0), 0);
    }

    @Of(promise = 8, says = "STATE: no GAME")
    static void stateWithoutGame() {
        refused("state(0)", Boundary::codeAlone, x -> x.state(0), STATE);
        refused("state(3)", Boundary::codeAlone, x -> x.state(3), STATE);
        refused("state(4), BAD is ahead", Boundary::codeAlone, x -> x.state(4), BAD);
        refused("state(-1), BAD is ahead", Boundary::codeAlone, x -> x.state(-1), BAD);
    }

    // ---- 9 found

    @Of(promise = 9, says = "FOUND")
    static void everyNumberCanBeFound() {
        for (int number = 0; number <= 15; number++) {
            Asked x = begun(YES, 16, 0);
            x.say(1 << number, true);
            is("found()", x.found(), number);
        }
    }

    @Of(promise = 9, says = "NONE: more are not OUT")
    static void foundOfTwoIsNone() {
        Asked x = begun(BOTH, 2, 0);
        is("two", x.found(), NONE);
        x.say(2, true);
        is("one", x.found(), 1);
        x.back();
        is("two again", x.found(), NONE);
        is("one from the first", begun(BOTH, 1, 3).found(), 0);
        onlyTells("found() where one WAITS", Boundary::inTheMidst, Asked::found);
    }

    @Of(promise = 9, says = "NONE: more are not OUT")
    static void oneAtLeftZeroStandsInTheWay() {
        Asked x = begun(BOTH, 2, 1);
        x.say(1, true);
        is("LEFT 1 and 0", x.found(), NONE);
        x.say(1, true);
        is("LEFT 1 and OUT", x.found(), 0);
    }

    @Of(promise = 9, says = "STATE: no GAME")
    static void foundWithoutGame() {
        refused("found()", Boundary::codeAlone, x -> x.found(), STATE);
    }

    // ---- 10 fewest

    @Of(promise = 10, says = "NONE: above 12")
    static void twelveAndAbove() {
        is("eight, e 3", begun(BOTH, 8, 3).fewest(), 12);
        is("nine, e 3", begun(BOTH, 9, 3).fewest(), NONE);
        Asked x = begun(BOTH, 16, 3);
        x.say(255, true);
        is("eight of LEFT 3, eight of LEFT 2", x.fewest(), 12);
        x.back();
        x.say(511, true);
        is("nine of LEFT 3, seven of LEFT 2", x.fewest(), NONE);
    }

    @Of(promise = 10, says = "FEWEST")
    static void fewestZeroWhereOneStands() {
        is("one from the first", begun(YES, 1, 3).fewest(), 0);
        Asked x = begun(YES, 2, 3);
        is("two", x.fewest(), 4);
        x.say(1, false);
        is("one is left", x.fewest(), 0);
        onlyTells("fewest() where one WAITS", Boundary::inTheMidst, Asked::fewest);
    }

    @Of(promise = 10, says = "STATE")
    static void fewestWithoutGame() {
        refused("fewest()", Boundary::codeAlone, x -> x.fewest(), STATE);
    }

    // ---- 11 spans

    @Of(promise = 11, says = "FEWEST BY SPANS")
    static void spansFromOneNumberToSix() {
        int[] ofTrue = {0, 1, 2, 2, 3, 3};
        for (int n = 1; n <= 6; n++) {
            is("TRUE, n " + n, begun(TRUE, n, 0).spans(), ofTrue[n - 1]);
            is("BOTH, e 0, n " + n, begun(BOTH, n, 0).spans(), ofTrue[n - 1]);
            is("YES, e 0, n " + n, begun(YES, n, 0).spans(), ofTrue[n - 1]);
        }
        for (int out = 0; out < 6; out++) {
            Asked x = begun(TRUE, 6, 0);
            x.say(1 << out, false);
            is("five of six, without " + out, x.spans(), 3);
            x.say(1 << (out + 1) % 6, false);
            is("four of six, without " + out + " and the next", x.spans(), 2);
        }
    }

    @Of(promise = 11, says = "BAD: n above 6, e above 2")
    static void nAndEAtTheirEdges() {
        is("n 6, e 2 of BOTH", begun(BOTH, 6, 2).spans(), 9);
        is("n 6, e 2 of YES", begun(YES, 6, 2).spans(), 6);
        is("n 6 of TRUE, e 0 whatever was told", begun(TRUE, 6, 3).spans(), 3);
        refused("n 7, e 2", x -> x.begin(BOTH, 7, 2), x -> x.spans(), BAD);
        refused("n 7 of TRUE", x -> x.begin(TRUE, 7, 0), x -> x.spans(), BAD);
        refused("n 6, e 3", x -> x.begin(YES, 6, 3), x -> x.spans(), BAD);
        refused("n 16, e 3", x -> x.begin(BOTH, 16, 3), x -> x.spans(), BAD);
        refused("n 1, e 3", x -> x.begin(BOTH, 1, 3), x -> x.spans(), BAD);
    }

    @Of(promise = 11, says = "BAD: n above 6, e above 2")
    static void nAndEAreThoseOfTheGameHoweverItStands() {
        refused("n 7, six of which are OUT", x -> { x.begin(TRUE, 7, 0); x.say(1, true); }, x -> x.spans(), BAD);
        refused("e 3, and LEFT 2 of all", x -> { x.begin(BOTH, 2, 3); x.say(0, true); }, x -> x.spans(), BAD);
    }

    /** With six NUMBERS and e 2 no row needs more than nine, so NONE never comes: 0 and 9 are the edges. */
    @Of(promise = 11, says = "NONE: above 12")
    static void theMostThatSpansCanNeed() {
        is("BOTH, e 2", begun(BOTH, 6, 2).spans(), 9);
        Asked x = begun(BOTH, 6, 2);
        x.say(63, true);
        is("behind an answer that tells nothing", x.spans(), 9);
        is("one NUMBER", begun(BOTH, 1, 2).spans(), 0);
        onlyTells("spans() where one WAITS", Boundary::inTheMidst, Asked::spans);
    }

    @Of(promise = 11, says = "STATE (ahead): no GAME")
    static void spansWithoutGame() {
        refused("spans()", Boundary::codeAlone, x -> x.spans(), STATE);
        refused("spans() behind a refused begin", x -> x.begin(BOTH, 17, 4), x -> x.spans(), STATE);
    }

    // ---- 12 weight

    @Of(promise = 12, says = "WEIGHT (q), q 0 .. 20")
    static void q0To20() {
        edges("weight(q)", Boundary::inTheMidst, Asked::weight, 0, 20, -1);
        Asked x = begun(BOTH, 16, 3);
        is("weight(0)", x.weight(0), 16);
        is("weight(20)", x.weight(20), 16 * (1 + 20 + 190 + 1140));
        is("weight(20), e 0", begun(BOTH, 1, 0).weight(20), 1);
    }

    @Of(promise = 12, says = "-1: BAD, no GAME, or it is not one of KIND BOTH")
    static void weightIsOfBothAlone() {
        refused("no GAME", Boundary::codeAlone, x -> x.weight(0), -1);
        refused("no GAME, q 21", Boundary::codeAlone, x -> x.weight(21), -1);
        refused("TRUE", x -> x.begin(TRUE, 4, 0), x -> x.weight(5), -1);
        refused("YES", x -> x.begin(YES, 4, 1), x -> x.weight(5), -1);
        Asked x = begun(YES, 4, 1);
        x.begin(BOTH, 4, 1);
        is("BOTH behind YES", x.weight(5), 24);
    }

    // ---- 13 best

    @Of(promise = 13, says = "STATE: no GAME, or FEWEST is 0 or NONE")
    static void bestWithoutGame() {
        refused("best()", Boundary::codeAlone, x -> x.best(), STATE);
    }

    @Of(promise = 13, says = "STATE: no GAME, or FEWEST is 0 or NONE")
    static void fewest0HasNoBestAnd1Has() {
        refused("one NUMBER", x -> x.begin(BOTH, 1, 3), x -> x.best(), STATE);
        refused("one is left", x -> { x.begin(TRUE, 4, 0); x.say(4, true); x.ask(4); }, x -> x.best(), STATE);
        is("two NUMBERS, FEWEST 1", begun(TRUE, 2, 0).best(), 1);
    }

    @Of(promise = 13, says = "STATE: no GAME, or FEWEST is 0 or NONE")
    static void fewestNoneHasNoBestAnd12Has() {
        refused("nine, e 3", x -> { x.begin(BOTH, 9, 3); x.ask(1); }, x -> x.best(), STATE);
        refused("sixteen, e 3", x -> x.begin(BOTH, 16, 3), x -> x.best(), STATE);
        is("eight, e 3, FEWEST 12", begun(BOTH, 8, 3).best(), 15);
    }

    @Of(promise = 13, says = "THE BEST heap")
    static void theBestHeapIsToldAndNotAsked() {
        onlyTells("best() where one WAITS", Boundary::inTheMidst, Asked::best);
        Asked x = begun(YES, 16, 3);
        int heap = x.best();
        is("what WAITS", x.told(5), -1);
        x.ask(heap);
        int fewest = x.fewest();
        x.answer(x.worse() == 1);
        is("fewest() behind THE WORSE answer to THE BEST heap", x.fewest(), fewest - 1);
    }

    // ---- 14 worse

    @Of(promise = 14, says = "STATE: no GAME, nothing WAITS, or FEWEST behind one that can come is NONE")
    static void worseWithoutGameOrQuestion() {
        refused("no GAME", Boundary::codeAlone, x -> x.worse(), STATE);
        refused("behind begin", x -> x.begin(BOTH, 4, 1), x -> x.worse(), STATE);
        refused("behind an answer", x -> { x.begin(BOTH, 4, 1); x.say(3, true); }, x -> x.worse(), STATE);
        refused("behind back", x -> { inTheMidst(x); x.back(); }, x -> x.worse(), STATE);
    }

    @Of(promise = 14, says = "STATE: no GAME, nothing WAITS, or FEWEST behind one that can come is NONE")
    static void noneBehindYesOrNo() {
        refused("behind yes", x -> { x.begin(BOTH, 9, 3); x.ask(511); }, x -> x.worse(), STATE);
        refused("behind no", x -> { x.begin(BOTH, 9, 3); x.ask(0); }, x -> x.worse(), STATE);
        refused("nine of LEFT 3 behind yes", x -> { x.begin(BOTH, 16, 3); x.ask(511); }, x -> x.worse(), STATE);
        refused("nine of LEFT 3 behind no", x -> { x.begin(BOTH, 16, 3); x.ask(127); }, x -> x.worse(), STATE);
    }

    @Of(promise = 14, says = "STATE: no GAME, nothing WAITS, or FEWEST behind one that can come is NONE")
    static void twelveBehindBothIsTold() {
        Asked x = begun(BOTH, 16, 3);
        x.ask(255);
        is("FEWEST itself is NONE", x.fewest(), NONE);
        is("worse()", x.worse(), 1);
    }

    @Of(promise = 14, says = "THE WORSE answer: 1 yes, 0 no")
    static void worseIsToldAndNotGiven() {
        onlyTells("worse()", Boundary::inTheMidst, Asked::worse);
        onlyTells("worse() at sixty answers", x -> { sixtyAnswers(x); x.ask(1); }, Asked::worse);
        Asked x = made(Boundary::sixtyAnswers);
        x.ask(0);
        is("at sixty, yes to none", x.worse(), 0);
        x.ask(7);
        is("at sixty, yes to all", x.worse(), 1);
    }

    @Of(promise = 14, says = "THE WORSE answer: 1 yes, 0 no")
    static void whereOneAnswerAloneCanCome() {
        Asked x = begun(YES, 2, 3);
        x.ask(3);
        is("no can't come: it would put both OUT", x.worse(), 1);
        x = begun(YES, 2, 0);
        x.ask(0);
        is("yes can't come: both have LEFT 0", x.worse(), 0);
    }
}
