import java.util.ArrayList;
import java.util.List;

/** All that can be seen of an object, down to its first answer and its first QUESTION: it is used up by it. */
final class Look {
    private final Asked x;
    private final List<String> seen = new ArrayList<>();

    private Look(Asked x) {
        this.x = x;
    }

    static List<String> at(Asked x) {
        Look look = new Look(x);
        look.told();
        look.game();
        look.code();
        look.answersFromTheLast();
        look.questionsFromTheLast();
        return look.seen;
    }

    private void see(String what, long answer) {
        seen.add(what + " is " + answer);
    }

    private void told() {
        for (int what = 0; what <= 7; what++) {
            see("told(" + what + ")", x.told(what));
        }
        see("trace()", x.trace());
    }

    private void game() {
        for (int number = 0; number <= 15; number++) {
            see("left(" + number + ")", x.left(number));
        }
        for (int i = 0; i <= 3; i++) {
            see("state(" + i + ")", x.state(i));
        }
        see("found()", x.found());
        see("fewest()", x.fewest());
        see("spans()", x.spans());
        see("weight(5)", x.weight(5));
        see("best()", x.best());
        see("worse()", x.worse());
    }

    private void code() {
        for (int number = 0; number <= 15; number++) {
            see("word(" + number + ")", x.word(number));
        }
    }

    private void answersFromTheLast() {
        int left = 0;
        for (int k = 0; k <= 60 && left >= 0; k++) {
            left = x.back();
            see("back()", left);
            see("left(0) behind back()", x.left(0));
            see("state(0) behind back()", x.state(0));
        }
    }

    private void questionsFromTheLast() {
        int left = 0;
        for (int k = 0; k <= 12 && left >= 0; k++) {
            left = x.drop();
            see("drop()", left);
            see("word(1) behind drop()", x.word(1));
        }
    }
}
