import java.lang.reflect.InvocationTargetException;
import java.lang.reflect.Method;
import java.lang.reflect.Modifier;
import java.util.Arrays;
import java.util.Comparator;
import java.util.List;
import java.util.function.Consumer;
import java.util.function.ToLongFunction;

/** What tests of boundary cases share: each is a method that tells by {@link Of} which sentence it holds. */
abstract class Boundary {
    static final int BAD = -1, STATE = -2, FULL = -3, NONE = -9;
    static final int TRUE = 0, BOTH = 1, YES = 2;

    /** A call of which one number is looked at. */
    interface Call {
        long with(Asked x, int value);
    }

    private static Due due;
    private static String at = "";

    static List<Method> testsOf(Class<?> tests) {
        return Arrays.stream(tests.getDeclaredMethods())
            .filter(method -> method.isAnnotationPresent(Of.class))
            .sorted(Comparator.comparing((Method method) -> method.getAnnotation(Of.class).promise())
                .thenComparing(Method::getName))
            .toList();
    }

    static void runAll(Class<?> tests) {
        due = new Due(tests.getSimpleName());
        for (Method test : testsOf(tests)) {
            Of of = test.getAnnotation(Of.class);
            at = "promise " + of.promise() + " '" + of.says() + "' " + test.getName() + ": ";
            due.holds(at + "it is static and takes nothing",
                Modifier.isStatic(test.getModifiers()) && test.getParameterCount() == 0);
            int asked = due.asked();
            run(test);
            due.holds(at + "it asks something", due.asked() > asked);
        }
        due.end();
    }

    private static void run(Method test) {
        try {
            test.invoke(null);
        } catch (InvocationTargetException thrown) {
            thrown.getCause().printStackTrace(System.out);
            due.holds(at + "nothing is thrown", false);
        } catch (IllegalAccessException thrown) {
            due.holds(at + "it can be called", false);
        }
    }

    // ---- what a test asks

    static void is(String call, long got, long want) {
        due.is(at + call, got, want);
    }

    static void same(String call, Asked x, Asked y) {
        List<String> left = Look.at(x);
        List<String> right = Look.at(y);
        due.is(at + call + ": as many to be seen", left.size(), right.size());
        for (int k = 0; k < Math.min(left.size(), right.size()); k++) {
            due.holds(at + call + ": " + left.get(k) + ", due is " + right.get(k), left.get(k).equals(right.get(k)));
        }
    }

    /** The call is refused so, and all is then as on an object that was never asked. */
    static void refused(String call, Consumer<Asked> ready, ToLongFunction<Asked> asked, long want) {
        Asked x = made(ready);
        is(call, asked.applyAsLong(x), want);
        same(call, x, made(ready));
    }

    /** What only tells changes nothing, whatever it tells. */
    static void onlyTells(String call, Consumer<Asked> ready, ToLongFunction<Asked> asked) {
        Asked x = made(ready);
        asked.applyAsLong(x);
        same(call, x, made(ready));
    }

    /** low and high are the last that are taken; one further, and as far as can be, is refused. */
    static void edges(String call, Consumer<Asked> ready, Call asked, int low, int high, long refusal) {
        for (int value : new int[] {low, high}) {
            Asked x = made(ready);
            due.holds(at + call + " takes " + value, asked.with(x, value) != refusal);
        }
        for (int value : new int[] {low - 1, high + 1, Integer.MIN_VALUE, Integer.MAX_VALUE}) {
            refused(call + " of " + value, ready, x -> asked.with(x, value), refusal);
        }
    }

    static Asked made(Consumer<Asked> ready) {
        Asked x = new Asked();
        ready.accept(x);
        return x;
    }

    static Asked begun(int kind, int n, int e) {
        return made(x -> x.begin(kind, n, e));
    }

    // ---- how objects stand when they are asked

    static void asMade(Asked x) {
        // a new object is asked as it is
    }

    /** Three answers, the latest taken back, a question that WAITS, a CODE of three QUESTIONS and a TRACE. */
    static void inTheMidst(Asked x) {
        x.begin(BOTH, 5, 2);
        x.say(7, true);
        x.say(3, false);
        x.say(5, true);
        x.back();
        x.ask(6);
        x.set(0xAAAA);
        x.set(0xCCCC);
        x.set(0xF0F0);
        x.cost(YES, true, false);
    }

    /** A CODE alone, and no GAME. */
    static void codeAlone(Asked x) {
        x.set(0xAAAA);
        x.set(0xCCCC);
        x.set(0xF0F0);
    }

    /** Sixty answers, of which none told anything but the first; nothing WAITS. LEFT is 1, 1 and 0. */
    static void sixtyAnswers(Asked x) {
        x.begin(BOTH, 3, 1);
        x.say(3, true);
        for (int k = 2; k <= 60; k++) {
            x.say(7, true);
        }
    }

    /** The bits of each NUMBER, three times over: NUMBERS are APART by 3 or more. */
    static void twelveQuestions(Asked x) {
        for (int k = 0; k < 3; k++) {
            x.set(0xAAAA);
            x.set(0xCCCC);
            x.set(0xF0F0);
            x.set(0xFF00);
        }
    }
}
