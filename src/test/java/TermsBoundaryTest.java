/** The boundary cases that the document names ahead of its first promise: 'What it is' and 'Terms'. */
public final class TermsBoundaryTest extends Boundary {
    public static void main(String[] args) {
        runAll(TermsBoundaryTest.class);
    }

    // ---- what it is

    @Of(promise = 0, says = "An object is used for at most 512 calls after it has been made")
    static void the512thCallIsAnswered() {
        Asked x = begun(BOTH, 3, 1);
        while (x.calls() < Asked.MOST_CALLS - 2) {
            x.say(7, true);
            if (x.calls() < Asked.MOST_CALLS - 2) {
                x.back();
            }
        }
        is("ask(1), call 511", x.ask(1), 1);
        is("answer(true), call 512", x.answer(true), 3);
        is("calls", x.calls(), 512);
    }

    @Of(promise = 0, says = "An object is used for at most 512 calls after it has been made")
    static void theTraceOf511Calls() {
        Asked x = new Asked();
        for (int k = 1; k <= 511; k++) {
            x.cost(YES, true, true);
        }
        is("trace(), call 512", x.trace(), 511 * 111);
    }

    @Of(promise = 0, says = "An object is used for at most 512 calls after it has been made")
    static void takenBackIn511Calls() {
        Asked x = begun(BOTH, 2, 0);
        for (int k = 1; k <= 170; k++) {
            x.say(3, true);
            x.back();
        }
        is("told(7), call 512", x.told(7), 170);
        is("calls", x.calls(), 512);
    }

    // ---- a liar, a game

    @Of(promise = 0, says = "0 TRUE, 1 BOTH, 2 YES")
    static void kinds0To2() {
        edges("begin(kind, 4, 1)", Boundary::inTheMidst, (x, kind) -> x.begin(kind, 4, 1), 0, 2, BAD);
        edges("cost(kind, true, true)", Boundary::inTheMidst, (x, kind) -> x.cost(kind, true, true), 0, 2, BAD);
    }

    @Of(promise = 0, says = "TRUE stands over BOTH, BOTH over YES")
    static void eachAsksThoseOverIt() {
        for (int kind = TRUE; kind <= YES; kind++) {
            Asked x = new Asked();
            x.cost(kind, true, true);
            is("trace() behind cost(" + kind + ", true, true)", x.trace(), new int[] {1, 11, 111}[kind]);
        }
    }

    @Of(promise = 0, says = "A GAME has NUMBERS 0 .. n - 1 (n 1 .. 16) and e (0 .. 3): how many LIES there may be")
    static void n1To16() {
        for (int kind = TRUE; kind <= YES; kind++) {
            int of = kind;
            edges("begin(" + kind + ", n, 1)", Boundary::inTheMidst, (x, n) -> x.begin(of, n, 1), 1, 16, BAD);
        }
    }

    @Of(promise = 0, says = "A GAME has NUMBERS 0 .. n - 1 (n 1 .. 16) and e (0 .. 3): how many LIES there may be")
    static void e0To3() {
        edges("begin(1, 4, e)", Boundary::inTheMidst, (x, e) -> x.begin(BOTH, 4, e), 0, 3, BAD);
        edges("begin(2, 4, e)", Boundary::inTheMidst, (x, e) -> x.begin(YES, 4, e), 0, 3, BAD);
    }

    @Of(promise = 0, says = "A GAME has NUMBERS 0 .. n - 1 (n 1 .. 16) and e (0 .. 3): how many LIES there may be")
    static void theLastNumberIsNLessOne() {
        for (int n = 1; n <= 16; n++) {
            Asked x = begun(BOTH, n, 1);
            is("left(0) of " + n, x.left(0), 1);
            is("left(n - 1) of " + n, x.left(n - 1), 1);
            is("left(n) of " + n, x.left(n), -2);
            is("the heap of n - 1 alone", x.ask(1 << (n - 1)), 1);
            is("the heap of n alone", x.ask(1 << n), BAD);
        }
    }

    @Of(promise = 0, says = "it is OUT (LEFT -1) when there would be too many")
    static void outAtOneLieMoreThanE() {
        for (int e = 0; e <= 3; e++) {
            Asked x = begun(BOTH, 2, e);
            for (int lies = 1; lies <= e; lies++) {
                x.say(1, true);
                is("left(1) with e " + e + " behind " + lies + " LIES", x.left(1), e - lies);
            }
            is("not OUT yet with e " + e, x.found(), NONE);
            x.say(1, true);
            is("left(1) with e " + e + " behind one more", x.left(1), -1);
            is("OUT with e " + e, x.found(), 0);
        }
    }

    // ---- cost

    @Of(promise = 0, says = "numbers in brackets come to THE TRACE as often as cost() asks that body")
    static void eachBodyComesAsOftenAsItIsAsked() {
        Asked x = new Asked();
        for (int k = 1; k <= 12; k++) {
            x.cost(YES, k % 2 == 0, k % 3 == 0);
            is("trace() behind " + k, x.trace(), 111 * k);
        }
        x.begin(YES, 4, 1);
        x.say(3, true);
        is("trace(): an answer's COST is not one of cost()", x.trace(), 111 * 12);
    }

    @Of(promise = 0, says = "TRUE: 0, if yes and in it, or no and not in it")
    static void costOfTrueWhereItIsTrue() {
        is("cost(0, true, true)", new Asked().cost(TRUE, true, true), 0);
        is("cost(0, false, false)", new Asked().cost(TRUE, false, false), 0);
    }

    @Of(promise = 0, says = "else 9 (1)")
    static void costOfTrueWhereItIsFalse() {
        is("cost(0, true, false)", new Asked().cost(TRUE, true, false), 9);
        is("cost(0, false, true)", new Asked().cost(TRUE, false, true), 9);
        Asked x = new Asked();
        x.cost(TRUE, false, true);
        is("trace()", x.trace(), 1);
    }

    @Of(promise = 0, says = "BOTH: up, but 1 in place of 9 (10)")
    static void costOfBoth() {
        is("cost(1, true, true)", new Asked().cost(BOTH, true, true), 0);
        is("cost(1, false, false)", new Asked().cost(BOTH, false, false), 0);
        is("cost(1, true, false)", new Asked().cost(BOTH, true, false), 1);
        is("cost(1, false, true)", new Asked().cost(BOTH, false, true), 1);
        Asked x = new Asked();
        x.cost(BOTH, true, false);
        is("trace()", x.trace(), 11);
    }

    @Of(promise = 0, says = "YES: up (a LIE is 1), but 9 for a no, if it is in it (100)")
    static void costOfYes() {
        is("cost(2, true, true)", new Asked().cost(YES, true, true), 0);
        is("cost(2, false, false)", new Asked().cost(YES, false, false), 0);
        is("cost(2, true, false)", new Asked().cost(YES, true, false), 1);
        is("cost(2, false, true)", new Asked().cost(YES, false, true), 9);
        Asked x = new Asked();
        x.cost(YES, false, true);
        is("trace(), also where up is not what it answers", x.trace(), 111);
    }

    @Of(promise = 0, says = "An answer takes its COST off LEFT of each NUMBER that is not OUT")
    static void whatIsOutStaysOut() {
        Asked x = begun(BOTH, 3, 3);
        for (int k = 1; k <= 6; k++) {
            x.say(1, true);
        }
        is("left(1) behind six LIES of three", x.left(1), -1);
        is("left(0)", x.left(0), 3);
        x.say(7, true);
        is("left(1) behind an answer without COST", x.left(1), -1);
        x.say(2, false);
        is("left(0), of which nothing went", x.left(0), 3);
        is("left(1) behind a no that is a LIE", x.left(1), -1);
    }

    @Of(promise = 0, says = "below 0: it is OUT")
    static void atZeroItStandsAndBelowItIsOut() {
        Asked x = begun(BOTH, 2, 1);
        x.say(1, true);
        is("left(1) at 0", x.left(1), 0);
        is("how many stand, one at 0", x.say(3, true), 2);
        is("how many stand, one below 0", x.say(1, true), 1);
        is("left(1) below 0", x.left(1), -1);
    }

    @Of(promise = 0, says = "below 0: it is OUT")
    static void farBelowZeroIsMinusOneToo() {
        Asked x = begun(YES, 2, 3);
        x.say(1, false);
        is("left(0): 3 less 9", x.left(0), -1);
        x = begun(TRUE, 2, 0);
        x.say(1, true);
        is("left(1): 0 less 9", x.left(1), -1);
    }

    @Of(promise = 0, says = "one that is asked WAITS for its answer")
    static void theEmptyHeapWaitsToo() {
        Asked x = begun(BOTH, 2, 1);
        is("told(5) ahead", x.told(5), -1);
        x.ask(0);
        is("told(5), the empty heap", x.told(5), 0);
        is("answer(false)", x.answer(false), 2);
        is("told(5) behind", x.told(5), -1);
    }

    @Of(promise = 0, says = "FOUND is the NUMBER that alone is not OUT")
    static void foundWithOneAndNotWithTwo() {
        Asked x = begun(TRUE, 16, 0);
        x.say(0x8001, true);
        is("found(), two", x.found(), NONE);
        x.say(0x8000, true);
        is("found(), the last NUMBER", x.found(), 15);
        x.back();
        x.say(0x8000, false);
        is("found(), the first NUMBER", x.found(), 0);
    }

    // ---- state, fewest

    @Of(promise = 0, says = "THE STATE of a GAME: how many NUMBERS have LEFT 0, 1, .. e")
    static void eachLeftIsCountedFrom0ToE() {
        Asked x = begun(BOTH, 10, 3);
        x.say(15, true);
        x.say(7, true);
        x.say(3, true);
        is("state(0)", x.state(0), 6);
        is("state(1)", x.state(1), 1);
        is("state(2)", x.state(2), 1);
        is("state(3)", x.state(3), 2);
    }

    @Of(promise = 0, says = "surely leave one NUMBER at most that is not OUT")
    static void noneIsNeededWhereOneStands() {
        for (int kind = TRUE; kind <= YES; kind++) {
            is("begin(" + kind + ", 1, 3)", new Asked().begin(kind, 1, 3), 0);
            is("begin(" + kind + ", 2, 0)", new Asked().begin(kind, 2, 0), 1);
        }
        Asked x = begun(BOTH, 2, 0);
        x.say(1, true);
        is("fewest() behind it", x.fewest(), 0);
    }

    @Of(promise = 0, says = "(no answer may leave none: such a one does not come)")
    static void anAnswerThatLeavesNoneDoesNotCome() {
        refused("answer(false) to all", x -> { x.begin(TRUE, 2, 0); x.ask(3); }, x -> x.answer(false), STATE);
        refused("answer(true) to none", x -> { x.begin(BOTH, 2, 0); x.ask(0); }, x -> x.answer(true), STATE);
        // Two of LEFT 0: behind either answer to the one question one is left, whatever the KIND.
        for (int kind = BOTH; kind <= YES; kind++) {
            Asked x = begun(kind, 2, 1);
            x.say(0, true);
            is("fewest() of two of LEFT 0, KIND " + kind, x.fewest(), 1);
        }
    }

    @Of(promise = 0, says = "12 at most: else NONE")
    static void fewest12IsToldAnd13IsNone() {
        is("begin(1, 8, 3)", new Asked().begin(BOTH, 8, 3), 12);
        is("fewest()", begun(BOTH, 8, 3).fewest(), 12);
        is("begin(1, 9, 3)", new Asked().begin(BOTH, 9, 3), NONE);
        is("fewest()", begun(BOTH, 9, 3).fewest(), NONE);
        is("begin(1, 16, 3)", new Asked().begin(BOTH, 16, 3), NONE);
    }

    @Of(promise = 0, says = "12 at most: else NONE")
    static void fromNoneTo12AndBackToNone() {
        Asked x = begun(BOTH, 9, 3);
        x.say(1 << 8, true);
        is("fewest() of eight of LEFT 2 and one of LEFT 3", x.fewest(), 10);
        x.back();
        is("fewest() behind back()", x.fewest(), NONE);
        x.say(511, true);
        is("fewest() behind an answer that tells nothing", x.fewest(), NONE);
        x = begun(BOTH, 16, 3);
        x.say(255, true);
        is("fewest() of eight of LEFT 3 and eight of LEFT 2", x.fewest(), 12);
    }

    @Of(promise = 0, says = "(LEFT that are OUT play no part")
    static void fewestIsThatOfThoseThatStand() {
        for (int n = 1; n <= 16; n++) {
            Asked x = begun(TRUE, 16, 0);
            x.say((1 << n) - 1, true);
            is("fewest() of " + n, x.fewest(), begun(TRUE, n, 0).fewest());
        }
        Asked x = begun(YES, 16, 3);
        x.say(0x5A5A, false);
        is("fewest() of eight of sixteen", x.fewest(), begun(YES, 8, 3).fewest());
        x = begun(YES, 6, 2);
        x.say(2 + 8, false);
        is("spans() of four of six", x.spans(), begun(YES, 4, 2).spans());
    }

    @Of(promise = 0, says = "it is for KINDS BOTH, YES, TRUE each its own")
    static void eachKindHasItsOwnFewest() {
        Asked x = new Asked();
        for (int turn = 0; turn < 2; turn++) {
            is("begin(1, 4, 1)", x.begin(BOTH, 4, 1), 5);
            is("begin(2, 4, 1)", x.begin(YES, 4, 1), 4);
            is("begin(0, 4, 1)", x.begin(TRUE, 4, 1), 2);
            is("begin(1, 4, 0)", x.begin(BOTH, 4, 0), 2);
        }
    }

    // ---- spans, weight, best, worse

    @Of(promise = 0, says = "FEWEST BY SPANS, n 6 at most, e 2 at most")
    static void spansOf6And2AndNoMore() {
        is("n 6, e 2", begun(BOTH, 6, 2).spans(), 9);
        is("n 7, e 2", begun(BOTH, 7, 2).spans(), BAD);
        is("n 6, e 3", begun(BOTH, 6, 3).spans(), BAD);
        is("n 1, e 0", begun(BOTH, 1, 0).spans(), 0);
    }

    @Of(promise = 0, says = "each question being NUMBERS from one up to another one")
    static void aSpanMayHaveOneNumberOrAll() {
        is("two NUMBERS: only one alone parts them", begun(TRUE, 2, 0).spans(), 1);
        is("three NUMBERS", begun(TRUE, 3, 0).spans(), 2);
        Asked x = begun(BOTH, 3, 0);
        x.say(1 + 4, true);
        is("the first and the last", x.spans(), 1);
    }

    @Of(promise = 0, says = "each question being NUMBERS from one up to another one")
    static void aSpanHasNoGap() {
        Asked x = begun(YES, 6, 1);
        x.say(1 + 4 + 16, true);
        is("fewest() of LEFT 1 and 0 by turns", x.fewest(), 3);
        is("spans() of LEFT 1 and 0 by turns", x.spans(), 4);
        x = begun(YES, 6, 1);
        x.say(1 + 2 + 4, true);
        is("spans() of LEFT 1 ahead of 0", x.spans(), 3);
    }

    @Of(promise = 0, says = "WEIGHT (q) of a GAME of KIND BOTH: the sum, over NUMBERS that are not OUT, of C(q, 0) + .. + C(q, LEFT)")
    static void weightWhereQIsBelowLeft() {
        Asked x = begun(BOTH, 1, 3);
        int[] want = {1, 2, 4, 8, 15};
        for (int q = 0; q < want.length; q++) {
            is("weight(" + q + ") of one of LEFT 3", x.weight(q), want[q]);
        }
    }

    @Of(promise = 0, says = "WEIGHT (q) of a GAME of KIND BOTH: the sum, over NUMBERS that are not OUT, of C(q, 0) + .. + C(q, LEFT)")
    static void whatIsOutWeighsNothing() {
        Asked x = begun(BOTH, 16, 0);
        is("weight(20) of sixteen of LEFT 0", x.weight(20), 16);
        x.say(1, true);
        is("weight(20) of one of LEFT 0", x.weight(20), 1);
    }

    @Of(promise = 0, says = "(Where it is above 2^q, FEWEST is above q")
    static void weightBoundsFewest() {
        for (int n = 1; n <= 16; n++) {
            for (int e = 0; e <= 3; e++) {
                Asked x = begun(BOTH, n, e);
                int fewest = x.fewest();
                int least = fewest == NONE ? 13 : fewest;
                for (int q = 0; q <= 12; q++) {
                    if (x.weight(q) > 1L << q) {
                        is("FEWEST of " + n + ", " + e + " is above " + q, least > q ? 1 : 0, 1);
                    }
                }
            }
        }
    }

    @Of(promise = 0, says = "of all heaps (bits of 0 .. n - 1) the least number for which the greater FEWEST behind yes and no (of answers that can come) is least")
    static void theLeastOfHeapsThatServeAlike() {
        is("best() of two: 1 and 2 serve", begun(TRUE, 2, 0).best(), 1);
        is("best() of five: 1 leaves four at most", begun(TRUE, 5, 0).best(), 1);
        is("best() of sixteen: eight alone serve", begun(TRUE, 16, 0).best(), 255);
    }

    @Of(promise = 0, says = "of all heaps (bits of 0 .. n - 1) the least number for which the greater FEWEST behind yes and no (of answers that can come) is least")
    static void theBestMayBeTheHighestBitAlone() {
        Asked x = begun(TRUE, 16, 0);
        x.say(0xC000, true);
        is("best() of 14 and 15", x.best(), 0x4000);
        x = begun(BOTH, 16, 3);
        x.say(0x8001, true);
        is("FEWEST is NONE no more", x.fewest() == NONE ? 1 : 0, 0);
        x.say(0x8000, true);
        x.say(0x8000, true);
        x.say(0x8000, true);
        is("left(0), left(15)", x.left(0) * 10 + x.left(15), 3);
        is("best() of LEFT 0 and 3", x.best(), 1);
    }

    @Of(promise = 0, says = "that of the two that can come behind which FEWEST is greater")
    static void theWorseOfTwoAndOfOneThatCanCome() {
        Asked x = begun(TRUE, 5, 0);
        x.ask(1);
        is("worse(), one against four", x.worse(), 0);
        x.ask(30);
        is("worse(), four against one", x.worse(), 1);
        x.ask(0);
        is("worse(), yes can't come", x.worse(), 0);
        x.ask(31);
        is("worse(), no can't come", x.worse(), 1);
    }

    @Of(promise = 0, says = "of like ones yes, if yes can come")
    static void ofLikeOnesYes() {
        Asked x = begun(TRUE, 2, 0);
        x.ask(1);
        is("worse(), 0 behind both", x.worse(), 1);
        x.ask(2);
        is("worse(), the other way round", x.worse(), 1);
        x.answer(true);
        x.ask(2);
        is("worse(), FEWEST 0 behind yes, and no can't come", x.worse(), 1);
        x.ask(1);
        is("worse(), FEWEST 0 behind no, and yes can't come", x.worse(), 0);
    }

    // ---- codes

    @Of(promise = 0, says = "A CODE is a row of QUESTIONS (12 at most), each a heap of NUMBERS 0 .. 15, set beforehand")
    static void twelveQuestionsAndNoThirteenth() {
        Asked x = new Asked();
        for (int k = 1; k <= 12; k++) {
            is("set(k), the " + k + "th", x.set(k), k);
        }
        is("set(13), the 13th", x.set(13), FULL);
        is("told(6)", x.told(6), 12);
    }

    @Of(promise = 0, says = "A CODE is a row of QUESTIONS (12 at most), each a heap of NUMBERS 0 .. 15, set beforehand")
    static void aHeapOfNumber0AndOne15() {
        Asked x = new Asked();
        x.set(1);
        x.set(1 << 15);
        is("word(0)", x.word(0), 1);
        is("word(15)", x.word(15), 2);
        is("word(14)", x.word(14), 0);
    }

    @Of(promise = 0, says = "bit k tells whether QUESTION k has it")
    static void bit0OfTheFirstAndBit11OfTheTwelfth() {
        Asked x = new Asked();
        x.set(2);
        for (int k = 1; k <= 10; k++) {
            x.set(0);
        }
        x.set(6);
        is("word(0)", x.word(0), 0);
        is("word(1)", x.word(1), 1 + 2048);
        is("word(2)", x.word(2), 2048);
    }

    @Of(promise = 0, says = "in how many bits their WORDS differ")
    static void apartFrom0To12() {
        Asked x = new Asked();
        is("apart(0, 1) without QUESTIONS", x.apart(0, 1), 0);
        for (int k = 1; k <= 12; k++) {
            x.set(2);
            is("apart(0, 1) of " + k, x.apart(0, 1), k);
            is("apart(0, 2) of " + k, x.apart(0, 2), 0);
        }
    }

    @Of(promise = 0, says = "if all NUMBERS 0 .. n - 1 are APART by more than 2 e, two by two")
    static void apartBy2EIsNotEnoughAndOneMoreIs() {
        Asked x = new Asked();
        for (int apart = 0; apart <= 8; apart++) {
            for (int e = 0; e <= 3; e++) {
                is("serves(2, " + e + "), APART by " + apart, x.serves(2, e), apart > 2 * e ? 1 : 0);
            }
            x.set(2);
        }
    }

    @Of(promise = 0, says = "if all NUMBERS 0 .. n - 1 are APART by more than 2 e, two by two")
    static void onePairIsEnoughToFail() {
        Asked x = new Asked();
        x.set(0b1010);
        x.set(0b1100);
        is("serves(4, 0)", x.serves(4, 0), 1);
        is("serves(5, 0): 4 is as 0", x.serves(5, 0), 0);
        is("serves(1, 3): there are no two", x.serves(1, 3), 1);
    }

    @Of(promise = 0, says = "the NUMBER below n whose WORD differs from it in e bits at most")
    static void eBitsOffIsReadAndOneMoreIsNot() {
        Asked x = new Asked();
        for (int k = 0; k < 12; k++) {
            x.set(2);
        }
        for (int e = 0; e <= 3; e++) {
            int off = (1 << e) - 1;
            is("read, " + e + " bits off with e " + e, x.read(off, 2, e), 0);
            is("read, one bit more off", x.read(2 * off + 1, 2, e), NONE);
            is("read, " + e + " bits off of 1", x.read(4095 - off, 2, e), 1);
        }
        is("read of 1, n 1", x.read(4095, 1, 3), NONE);
    }

    @Of(promise = 0, says = "NONE: none does, or more than one")
    static void noneAndTwoAreNone() {
        Asked x = new Asked();
        x.set(2);
        x.set(2);
        is("read(1, 2, 0): none does", x.read(1, 2, 0), NONE);
        is("read(1, 2, 1): both do", x.read(1, 2, 1), NONE);
        is("read(0, 2, 1): one does", x.read(0, 2, 1), 0);
        is("read(0, 3, 0): 2 is as 0", x.read(0, 3, 0), NONE);
    }

    // ---- refusals

    @Of(promise = 0, says = "Refused, and nothing changes, the first of these: BAD (a number is not as told, or there is no such thing), STATE (as told), FULL")
    static void badIsAheadOfState() {
        refused("ask(65536) without GAME", Boundary::codeAlone, x -> x.ask(65536), BAD);
        refused("left(16) without GAME", Boundary::codeAlone, x -> x.left(16), -2);
        refused("state(4) without GAME", Boundary::codeAlone, x -> x.state(4), BAD);
        refused("play(8) without GAME", Boundary::codeAlone, x -> x.play(8), BAD);
    }

    @Of(promise = 0, says = "Refused, and nothing changes, the first of these: BAD (a number is not as told, or there is no such thing), STATE (as told), FULL")
    static void badIsAheadOfFull() {
        refused("set(65536), the 13th", Boundary::twelveQuestions, x -> x.set(65536), BAD);
        refused("set(-1), the 13th", Boundary::twelveQuestions, x -> x.set(-1), BAD);
    }

    @Of(promise = 0, says = "Refused, and nothing changes, the first of these: BAD (a number is not as told, or there is no such thing), STATE (as told), FULL")
    static void stateIsAheadOfFull() {
        refused("answer(true) at sixty, nothing WAITS", Boundary::sixtyAnswers, x -> x.answer(true), STATE);
        refused("answer(false) at sixty, all would be OUT", x -> {
            x.begin(TRUE, 2, 0);
            for (int k = 1; k <= 60; k++) {
                x.say(3, true);
            }
            x.ask(3);
        }, x -> x.answer(false), STATE);
    }
}
