/** Each promise of the document by itself: ordinary inputs, the edges that it names, and wrong inputs. */
public final class PromisesTest {
    private static final int BAD = -1, STATE = -2, FULL = -3, NONE = -9;
    private static final int TRUE = 0, BOTH = 1, YES = 2;

    private static Due due;

    public static void main(String[] args) {
        due = new Due("PromisesTest");
        newObject();
        begin();
        cost();
        ask();
        answer();
        answersAtTheirEnd();
        back();
        left();
        state();
        found();
        fewest();
        spans();
        weight();
        best();
        worse();
        set();
        drop();
        word();
        apart();
        serves();
        read();
        play();
        playAtItsEnds();
        told();
        trace();
        due.end();
    }

    // ---- helpers

    private static LiarsAnswers begun(int kind, int n, int e) {
        LiarsAnswers x = new LiarsAnswers();
        x.begin(kind, n, e);
        return x;
    }

    private static int say(LiarsAnswers x, int heap, boolean yes) {
        x.ask(heap);
        return x.answer(yes);
    }

    /** QUESTIONS that tell the NUMBERS' bits, as often as asked for. */
    private static LiarsAnswers bitsTold(int times) {
        LiarsAnswers x = new LiarsAnswers();
        for (int k = 0; k < times; k++) {
            x.set(0xAAAA);
            x.set(0xCCCC);
            x.set(0xF0F0);
            x.set(0xFF00);
        }
        return x;
    }

    // ---- 1 to 14: a game

    private static void newObject() {
        LiarsAnswers x = new LiarsAnswers();
        int[] want = {0, 0, 0, 0, 0, -1, 0, 0};
        for (int what = 0; what < want.length; what++) {
            due.is("1 told(" + what + ")", x.told(what), want[what]);
        }
        due.is("1 found()", x.found(), STATE);
        due.is("1 drop()", x.drop(), STATE);
        due.is("1 word(15)", x.word(15), 0);
        due.is("1 trace()", x.trace(), 0);
        LiarsAnswers other = begun(BOTH, 4, 1);
        other.set(3);
        other.cost(YES, true, true);
        due.is("1 another object's GAME", x.told(0), 0);
        due.is("1 another object's CODE", x.told(6), 0);
        due.is("1 another object's TRACE", x.trace(), 0);
    }

    private static void begin() {
        LiarsAnswers x = new LiarsAnswers();
        due.is("2 kind 3", x.begin(3, 4, 1), BAD);
        due.is("2 kind -1", x.begin(-1, 4, 1), BAD);
        due.is("2 n 0", x.begin(BOTH, 0, 1), BAD);
        due.is("2 n 17", x.begin(YES, 17, 1), BAD);
        due.is("2 n 0 of TRUE", x.begin(TRUE, 0, 0), BAD);
        due.is("2 n 17 of TRUE", x.begin(TRUE, 17, 0), BAD);
        due.is("2 e -1", x.begin(BOTH, 4, -1), BAD);
        due.is("2 e 4", x.begin(YES, 4, 4), BAD);
        due.is("2 none began", x.told(0), 0);
        due.is("2 TRUE, e -5", x.begin(TRUE, 9, -5), 4);
        due.is("2 e of TRUE", x.told(3), 0);
        due.is("2 one NUMBER", x.begin(BOTH, 1, 3), 0);
        due.is("2 BOTH 2, 0", x.begin(BOTH, 2, 0), 1);
        due.is("2 BOTH 2, 1", x.begin(BOTH, 2, 1), 3);
        due.is("2 BOTH 2, 2", x.begin(BOTH, 2, 2), 5);
        due.is("2 BOTH 2, 3", x.begin(BOTH, 2, 3), 7);
        due.is("2 YES 2, 3", x.begin(YES, 2, 3), 4);
        due.is("2 BOTH 16, 1", x.begin(BOTH, 16, 1), 7);
        due.is("2 YES 16, 3", x.begin(YES, 16, 3), 9);
        due.is("2 BOTH 16, 3", x.begin(BOTH, 16, 3), NONE);
        due.is("2 begun all the same", x.told(2), 16);
        say(x, 255, true);
        x.ask(1);
        due.is("2 refused", x.begin(BOTH, 0, 0), BAD);
        due.is("2 refused: answers stay", x.told(4), 1);
        due.is("2 refused: what WAITS stays", x.told(5), 1);
        due.is("2 in place of another one", x.begin(BOTH, 4, 1), 5);
        due.is("2 no answers", x.told(4), 0);
        due.is("2 nothing WAITS", x.told(5), -1);
        due.is("2 LEFT anew", x.left(3), 1);
    }

    private static void cost() {
        LiarsAnswers x = new LiarsAnswers();
        int[][] want = {{0, 9, 9, 0}, {0, 1, 1, 0}, {0, 1, 9, 0}};
        for (int kind = TRUE; kind <= YES; kind++) {
            due.is("3 yes, in it " + kind, x.cost(kind, true, true), want[kind][0]);
            due.is("3 yes, not in it " + kind, x.cost(kind, true, false), want[kind][1]);
            due.is("3 no, in it " + kind, x.cost(kind, false, true), want[kind][2]);
            due.is("3 no, not in it " + kind, x.cost(kind, false, false), want[kind][3]);
        }
        due.is("3 kind -1", x.cost(-1, true, true), BAD);
        due.is("3 kind 3", x.cost(3, true, true), BAD);
        due.is("3 kind far off", x.cost(Integer.MIN_VALUE, true, true), BAD);
    }

    private static void ask() {
        LiarsAnswers x = new LiarsAnswers();
        due.is("4 no GAME", x.ask(0), STATE);
        due.is("4 no GAME, all bits", x.ask(65535), STATE);
        due.is("4 no GAME, BAD is ahead", x.ask(65536), BAD);
        due.is("4 no GAME, below 0", x.ask(-1), BAD);
        x.begin(BOTH, 5, 0);
        due.is("4 bits beyond n", x.ask(32), BAD);
        due.is("4 far beyond n", x.ask(Integer.MAX_VALUE), BAD);
        due.is("4 below 0", x.ask(Integer.MIN_VALUE), BAD);
        due.is("4 nothing WAITS yet", x.told(5), -1);
        due.is("4 all of them", x.ask(31), 5);
        due.is("4 WAITS", x.told(5), 31);
        due.is("4 another one", x.ask(3), 2);
        due.is("4 it WAITS instead", x.told(5), 3);
        due.is("4 refused", x.ask(33), BAD);
        due.is("4 the one ahead WAITS still", x.told(5), 3);
        x.answer(true);
        due.is("4 OUT ones are not told", x.ask(30), 1);
        due.is("4 an empty heap", x.ask(0), 0);
        due.is("4 an empty heap WAITS", x.told(5), 0);
        x.begin(BOTH, 16, 0);
        due.is("4 sixteen", x.ask(65535), 16);
    }

    private static void answer() {
        LiarsAnswers x = new LiarsAnswers();
        due.is("5 no GAME", x.answer(true), STATE);
        x.begin(TRUE, 4, 0);
        due.is("5 nothing WAITS", x.answer(true), STATE);
        x.ask(7);
        due.is("5 TRUE", x.answer(true), 3);
        due.is("5 it WAITS no more", x.answer(true), STATE);
        x.ask(8);
        due.is("5 all would be OUT", x.answer(true), STATE);
        due.is("5 no answer came", x.told(4), 1);
        due.is("5 it WAITS still", x.told(5), 8);
        due.is("5 the other answer", x.answer(false), 3);
        x.begin(BOTH, 3, 1);
        due.is("5 BOTH: a lie each", say(x, 1, true), 3);
        due.is("5 BOTH: two lies put OUT", say(x, 1, true), 1);
        x.begin(BOTH, 3, 1);
        due.is("5 BOTH: no", say(x, 1, false), 3);
        due.is("5 BOTH: no again", say(x, 1, false), 2);
        x.begin(YES, 3, 3);
        due.is("5 YES: a no is true", say(x, 1, false), 2);
        due.is("5 YES: a yes may be false", say(x, 2, true), 2);
        due.is("5 YES: LEFT of one not in it", x.left(2), 2);
    }

    private static void answersAtTheirEnd() {
        LiarsAnswers x = begun(BOTH, 2, 0);
        for (int k = 1; k <= 60; k++) {
            due.is("5 answer " + k, say(x, 3, true), 2);
        }
        due.is("5 answer 61", say(x, 3, true), FULL);
        due.is("5 it WAITS still", x.told(5), 3);
        due.is("5 STATE is ahead of FULL", x.answer(false), STATE);
        due.is("5 sixty", x.told(4), 60);
        due.is("5 THE WORSE is told at sixty", x.worse(), 1);
        x.ask(1);
        due.is("5 and of a question that parts them", x.worse(), 1);
        due.is("5 LEFT is as before", x.left(1), 0);
        due.is("5 found as before", x.found(), NONE);
        due.is("6 back at sixty", x.back(), 59);
        due.is("5 room again", say(x, 1, true), 1);
    }

    private static void back() {
        LiarsAnswers x = new LiarsAnswers();
        due.is("6 no GAME", x.back(), STATE);
        x.begin(BOTH, 4, 1);
        x.ask(3);
        due.is("6 no answer", x.back(), STATE);
        due.is("6 refused: it WAITS still", x.told(5), 3);
        x.answer(true);
        say(x, 1, true);
        x.ask(2);
        due.is("6 how many answers are left", x.back(), 1);
        due.is("6 nothing WAITS", x.told(5), -1);
        due.is("6 LEFT as ahead of it", x.left(1), 1);
        due.is("6 OUT no more", x.left(2), 0);
        due.is("6 fewest as ahead of it", x.fewest(), 4);
        due.is("6 to the first", x.back(), 0);
        due.is("6 LEFT as begun", x.left(3), 1);
        due.is("6 none more", x.back(), STATE);
        say(x, 1, false);
        x.begin(BOTH, 4, 1);
        due.is("6 not into the GAME ahead", x.back(), STATE);
    }

    private static void left() {
        LiarsAnswers x = new LiarsAnswers();
        due.is("7 no GAME", x.left(0), -3);
        due.is("7 no GAME, 15", x.left(15), -3);
        due.is("7 BAD is ahead", x.left(16), -2);
        due.is("7 below 0", x.left(-1), -2);
        x.begin(BOTH, 3, 3);
        due.is("7 as begun", x.left(2), 3);
        due.is("7 no such NUMBER", x.left(3), -2);
        due.is("7 far off", x.left(Integer.MAX_VALUE), -2);
        for (int k = 2; k >= -1; k--) {
            say(x, 3, true);
            due.is("7 not in it", x.left(2), k);
            due.is("7 in it", x.left(0), 3);
        }
        say(x, 3, true);
        due.is("7 OUT stays OUT", x.left(2), -1);
    }

    private static void state() {
        LiarsAnswers x = new LiarsAnswers();
        due.is("8 no GAME", x.state(3), STATE);
        due.is("8 BAD is ahead", x.state(4), BAD);
        due.is("8 below 0", x.state(-1), BAD);
        x.begin(BOTH, 7, 2);
        due.is("8 all have e", x.state(2), 7);
        due.is("8 above e", x.state(3), 0);
        say(x, 7, true);
        say(x, 1, true);
        due.is("8 LEFT 0", x.state(0), 4);
        due.is("8 LEFT 1", x.state(1), 2);
        due.is("8 LEFT 2", x.state(2), 1);
        say(x, 1, true);
        due.is("8 OUT is not told", x.state(0) + x.state(1) + x.state(2) + x.state(3), 3);
    }

    private static void found() {
        LiarsAnswers x = new LiarsAnswers();
        due.is("9 no GAME", x.found(), STATE);
        x.begin(TRUE, 16, 0);
        due.is("9 many", x.found(), NONE);
        say(x, 0xC000, true);
        due.is("9 two", x.found(), NONE);
        say(x, 0x4000, false);
        due.is("9 one", x.found(), 15);
        x.begin(YES, 1, 2);
        due.is("9 one from the first", x.found(), 0);
    }

    private static void fewest() {
        LiarsAnswers x = new LiarsAnswers();
        due.is("10 no GAME", x.fewest(), STATE);
        for (int n = 1; n <= 16; n++) {
            x.begin(TRUE, n, 0);
            int halvings = 32 - Integer.numberOfLeadingZeros(n - 1);
            due.is("10 TRUE " + n, x.fewest(), halvings);
            x.begin(YES, n, 0);
            due.is("10 YES without lies " + n, x.fewest(), halvings);
        }
        x.begin(BOTH, 6, 3);
        due.is("10 twelve", x.fewest(), 12);
        x.begin(BOTH, 16, 3);
        due.is("10 above 12", x.fewest(), NONE);
        say(x, 65535, true);
        due.is("10 above 12 still", x.fewest(), NONE);
        say(x, 1, true);
        due.is("10 no more above 12", x.fewest(), 11);
        say(x, 1, true);
        say(x, 1, true);
        say(x, 1, true);
        due.is("10 one is left", x.fewest(), 0);
        x.begin(BOTH, 4, 1);
        say(x, 3, true);
        due.is("10 as it stands", x.fewest(), 4);
        x.ask(1);
        due.is("10 what WAITS plays no part", x.fewest(), 4);
        x.begin(YES, 4, 1);
        due.is("10 YES is its own", x.fewest(), 4);
        x.begin(BOTH, 4, 1);
        due.is("10 BOTH is its own", x.fewest(), 5);
    }

    private static void spans() {
        LiarsAnswers x = new LiarsAnswers();
        due.is("11 no GAME", x.spans(), STATE);
        x.begin(BOTH, 7, 2);
        due.is("11 n above 6", x.spans(), BAD);
        x.begin(BOTH, 6, 3);
        due.is("11 e above 2", x.spans(), BAD);
        say(x, 1, true);
        say(x, 1, true);
        due.is("11 e is the GAME's", x.spans(), BAD);
        x.begin(TRUE, 6, 3);
        due.is("11 TRUE has e 0", x.spans(), 3);
        x.begin(BOTH, 6, 2);
        due.is("11 BOTH 6, 2", x.spans(), 9);
        x.begin(YES, 6, 2);
        due.is("11 YES 6, 2", x.spans(), 6);
        x.begin(BOTH, 1, 2);
        due.is("11 one NUMBER", x.spans(), 0);
        x.begin(YES, 6, 1);
        say(x, 1 + 4 + 16, true);
        due.is("11 LEFT 1 and 0 by turns", x.spans(), 4);
        due.is("11 heaps part them better", x.fewest(), 3);
        x.begin(YES, 6, 1);
        say(x, 7, true);
        due.is("11 where like ones stand together", x.spans(), 3);
    }

    private static void weight() {
        LiarsAnswers x = new LiarsAnswers();
        due.is("12 no GAME", x.weight(3), -1);
        x.begin(TRUE, 4, 0);
        due.is("12 TRUE", x.weight(3), -1);
        x.begin(YES, 4, 1);
        due.is("12 YES", x.weight(3), -1);
        x.begin(BOTH, 16, 3);
        due.is("12 below 0", x.weight(-1), -1);
        due.is("12 above 20", x.weight(21), -1);
        due.is("12 q 0", x.weight(0), 16);
        due.is("12 q 1", x.weight(1), 32);
        due.is("12 q 2", x.weight(2), 64);
        due.is("12 q 12", x.weight(12), 16 * (1 + 12 + 66 + 220));
        due.is("12 q 20", x.weight(20), 16 * (1 + 20 + 190 + 1140));
        say(x, 1, true);
        due.is("12 LEFT 2 and 3", x.weight(5), 26 + 15 * 16);
        say(x, 1, true);
        say(x, 1, true);
        due.is("12 LEFT 0 and 3", x.weight(5), 26 + 15);
        say(x, 1, true);
        due.is("12 OUT has none", x.weight(5), 26);
    }

    private static void best() {
        LiarsAnswers x = new LiarsAnswers();
        due.is("13 no GAME", x.best(), STATE);
        x.begin(BOTH, 1, 3);
        due.is("13 FEWEST is 0", x.best(), STATE);
        x.begin(BOTH, 16, 3);
        due.is("13 FEWEST is NONE", x.best(), STATE);
        x.begin(TRUE, 16, 0);
        due.is("13 half of sixteen", x.best(), 255);
        x.begin(TRUE, 9, 0);
        due.is("13 the least of those that serve", x.best(), 1);
        say(x, 1, false);
        due.is("13 half of eight, past the one that is OUT", x.best(), 2 + 4 + 8 + 16);
        x.begin(YES, 4, 1);
        due.is("13 YES", x.best(), 1);
        x.begin(BOTH, 4, 1);
        due.is("13 BOTH", x.best(), 3);
        say(x, 12, true);
        due.is("13 those of LEFT 0 against those of LEFT 1", x.best(), 3);
        x.begin(BOTH, 4, 1);
        say(x, 10, true);
        due.is("13 of each LEFT the lowest", x.best(), 2);
        x.ask(5);
        x.best();
        due.is("13 nothing changes", x.told(5), 5);
    }

    private static void worse() {
        LiarsAnswers x = new LiarsAnswers();
        due.is("14 no GAME", x.worse(), STATE);
        x.begin(TRUE, 5, 0);
        due.is("14 nothing WAITS", x.worse(), STATE);
        x.ask(1);
        due.is("14 no is worse", x.worse(), 0);
        x.ask(30);
        due.is("14 yes is worse", x.worse(), 1);
        x.ask(3);
        due.is("14 two against three", x.worse(), 0);
        say(x, 15, true);
        x.ask(3);
        due.is("14 of like ones yes", x.worse(), 1);
        x.ask(16);
        due.is("14 yes can't come", x.worse(), 0);
        x.ask(15);
        due.is("14 no can't come", x.worse(), 1);
        due.is("14 it WAITS still", x.told(5), 15);
        x.begin(TRUE, 1, 0);
        x.ask(0);
        due.is("14 of one NUMBER, yes can't come", x.worse(), 0);
        x.ask(1);
        due.is("14 of one NUMBER, no can't come", x.worse(), 1);
        x.begin(BOTH, 16, 3);
        x.ask(255);
        due.is("14 FEWEST itself may be NONE", x.worse(), 1);
        x.ask(0);
        due.is("14 NONE behind no", x.worse(), STATE);
        x.ask(65535);
        due.is("14 NONE behind yes", x.worse(), STATE);
    }

    // ---- 15 to 23: codes

    private static void set() {
        LiarsAnswers x = new LiarsAnswers();
        due.is("15 below 0", x.set(-1), BAD);
        due.is("15 beyond", x.set(65536), BAD);
        for (int k = 1; k <= 12; k++) {
            due.is("15 QUESTION " + k, x.set(k == 1 ? 0 : k == 2 ? 65535 : k), k);
        }
        due.is("15 the thirteenth", x.set(5), FULL);
        due.is("15 BAD is ahead of FULL", x.set(70000), BAD);
        due.is("15 twelve stay", x.told(6), 12);
        x.begin(BOTH, 2, 0);
        due.is("15 a GAME leaves the CODE alone", x.told(6), 12);
    }

    private static void drop() {
        LiarsAnswers x = bitsTold(1);
        for (int k = 3; k >= 0; k--) {
            due.is("16 left", x.drop(), k);
            due.is("16 the latest is gone", x.word(15), (1 << k) - 1);
        }
        due.is("16 none", x.drop(), STATE);
        due.is("16 set behind drop", x.set(2), 1);
        due.is("16 the new one's bit", x.word(1), 1);
        due.is("16 not the old one's", x.word(3), 0);
    }

    private static void word() {
        LiarsAnswers x = bitsTold(3);
        for (int number = 0; number < 16; number++) {
            due.is("17 word(" + number + ")", x.word(number), number * 0x111);
        }
        due.is("17 below 0", x.word(-1), BAD);
        due.is("17 beyond", x.word(16), BAD);
    }

    private static void apart() {
        LiarsAnswers x = bitsTold(3);
        due.is("18 all bits", x.apart(0, 15), 12);
        due.is("18 some", x.apart(5, 6), 6);
        due.is("18 the other way round", x.apart(6, 5), 6);
        due.is("18 of itself", x.apart(9, 9), 0);
        due.is("18 a below 0", x.apart(-1, 0), BAD);
        due.is("18 b beyond", x.apart(0, 16), BAD);
    }

    private static void serves() {
        LiarsAnswers x = new LiarsAnswers();
        due.is("19 one NUMBER", x.serves(1, 3), 1);
        due.is("19 two without QUESTIONS", x.serves(2, 0), 0);
        x = bitsTold(3);
        due.is("19 three times", x.serves(16, 1), 1);
        due.is("19 APART by 3 is not more than 4", x.serves(16, 2), 0);
        x.drop();
        due.is("19 APART by 2 is not more than 2", x.serves(16, 1), 0);
        due.is("19 those below 8 are APART by 3 still", x.serves(8, 1), 1);
        x = new LiarsAnswers();
        for (int k = 1; k <= 7; k++) {
            due.is("19 two of " + k, x.set(2) == k ? x.serves(2, 3) : -5, k == 7 ? 1 : 0);
        }
        due.is("19 n 0", x.serves(0, 0), BAD);
        due.is("19 n 17", x.serves(17, 0), BAD);
        due.is("19 e -1", x.serves(2, -1), BAD);
        due.is("19 e 4", x.serves(2, 4), BAD);
    }

    private static void read() {
        LiarsAnswers x = bitsTold(3);
        due.is("20 as it is", x.read(0x777, 16, 1), 7);
        due.is("20 one bit off", x.read(0x767, 16, 1), 7);
        due.is("20 two bits off", x.read(0x765, 16, 1), NONE);
        due.is("20 two bits off, e 2", x.read(0x765, 16, 2), 7);
        due.is("20 not below n", x.read(0x777, 7, 0), NONE);
        due.is("20 more than one", x.read(0x001, 2, 2), NONE);
        due.is("20 one of them below n", x.read(0x001, 1, 2), 0);
        due.is("20 the greatest word", x.read(4095, 16, 0), 15);
        due.is("20 word below 0", x.read(-1, 16, 0), BAD);
        due.is("20 word beyond", x.read(4096, 16, 0), BAD);
        due.is("20 n 0", x.read(0, 0, 0), BAD);
        due.is("20 n 17", x.read(0, 17, 0), BAD);
        due.is("20 e -1", x.read(0, 16, -1), BAD);
        due.is("20 e 4", x.read(0, 16, 4), BAD);
        x.drop();
        due.is("20 beyond when one is gone", x.read(2048, 16, 0), BAD);
        due.is("20 no QUESTIONS", new LiarsAnswers().read(0, 1, 0), 0);
        due.is("20 no QUESTIONS, two NUMBERS", new LiarsAnswers().read(0, 2, 0), NONE);
        due.is("20 no QUESTIONS, a bit", new LiarsAnswers().read(1, 1, 0), BAD);
    }

    private static void play() {
        LiarsAnswers x = bitsTold(3);
        due.is("21 no GAME", x.play(0), STATE);
        due.is("21 BAD is ahead", x.play(4096), BAD);
        x.begin(BOTH, 16, 1);
        x.ask(7);
        due.is("21 word below 0", x.play(-1), BAD);
        due.is("21 refused: it WAITS still", x.told(5), 7);
        due.is("21 with one lie", x.play(0x557), 12);
        due.is("21 found", x.found(), 5);
        due.is("21 the lie is off LEFT", x.left(5), 0);
        due.is("21 nothing WAITS", x.told(5), -1);
        x.begin(TRUE, 5, 0);
        due.is("21 NUMBERS beyond n are left out", x.play(0x444), 12);
        due.is("21 found among five", x.found(), 4);
        for (int k = 11; k >= 0; k--) {
            due.is("21 answers can be taken back", x.back(), k);
        }
    }

    private static void playAtItsEnds() {
        LiarsAnswers x = bitsTold(1);
        x.begin(TRUE, 8, 0);
        due.is("21 ends ahead of what can't come", x.play(15), 3);
        due.is("21 what was answered stays", x.told(4), 3);
        due.is("21 found", x.found(), 7);
        x.ask(1);
        due.is("21 none answered", x.play(0), 0);
        due.is("21 nothing WAITS all the same", x.told(5), -1);
        x = begun(BOTH, 2, 1);
        x.ask(1);
        due.is("21 a CODE without QUESTIONS", x.play(0), 0);
        due.is("21 nothing WAITS then", x.told(5), -1);
        for (int k = 0; k < 12; k++) {
            x.set(65535);
        }
        for (int k = 12; k <= 60; k += 12) {
            due.is("21 twelve more", x.play(4095), 12);
            due.is("21 answers", x.told(4), k);
        }
        due.is("21 ends at sixty", x.play(4095), 0);
        x.back();
        x.back();
        due.is("21 two more", x.play(4095), 2);
        due.is("21 sixty", x.told(4), 60);
    }

    private static void told() {
        LiarsAnswers x = new LiarsAnswers();
        due.is("22 below 0", x.told(-1), -2);
        due.is("22 beyond", x.told(8), -2);
        x.begin(YES, 9, 2);
        x.set(4);
        say(x, 3, true);
        say(x, 3, true);
        x.back();
        x.ask(260);
        int[] want = {1, 2, 9, 2, 1, 260, 1, 1};
        for (int what = 0; what < want.length; what++) {
            due.is("22 told(" + what + ")", x.told(what), want[what]);
        }
        x.begin(BOTH, 3, 1);
        due.is("22 taken back ever", x.told(7), 1);
        due.is("22 the CODE stays", x.told(6), 1);
        x.back();
        due.is("22 refused ones don't count", x.told(7), 1);
    }

    private static void trace() {
        LiarsAnswers x = bitsTold(1);
        x.begin(YES, 6, 2);
        say(x, 3, true);
        x.fewest();
        x.spans();
        x.best();
        x.play(3);
        due.is("23 cost() alone counts", x.trace(), 0);
        x.cost(TRUE, true, true);
        due.is("23 TRUE", x.trace(), 1);
        x.cost(BOTH, true, true);
        due.is("23 BOTH asks TRUE", x.trace(), 12);
        x.cost(YES, false, true);
        due.is("23 YES asks BOTH, whatever it answers", x.trace(), 123);
        x.cost(YES, true, true);
        x.cost(7, true, true);
        due.is("23 refused ones don't count", x.trace(), 234);
        x.begin(BOTH, 4, 1);
        due.is("23 a GAME leaves it alone", x.trace(), 234);
    }
}
