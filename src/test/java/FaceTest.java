import com.sun.management.ThreadMXBean;
import java.io.IOException;
import java.lang.management.ManagementFactory;
import java.lang.reflect.Constructor;
import java.lang.reflect.Field;
import java.lang.reflect.Method;
import java.lang.reflect.Modifier;
import java.util.Arrays;
import java.util.List;
import java.util.Set;
import java.util.TreeSet;
import java.util.regex.Matcher;
import java.util.regex.Pattern;

/** The public face, what can be seen of LANGUAGE.md from outside, and the room that a run takes. */
public final class FaceTest {
    private static final Set<String> METHODS = new TreeSet<>(List.of(
        "int begin(int, int, int)", "int cost(int, boolean, boolean)", "int ask(int)", "int answer(boolean)",
        "int back()", "int left(int)", "int state(int)", "int found()", "int fewest()", "int spans()",
        "long weight(int)", "int best()", "int worse()", "int set(int)", "int drop()", "int word(int)",
        "int apart(int, int)", "int serves(int, int)", "int read(int, int, int)", "int play(int)",
        "int told(int)", "long trace()"));

    private static final List<String> FORBIDDEN = List.of(
        "\\bthrow\\b", "\\bthrows\\b", "\\btry\\b", "\\bcatch\\b", "\\bsynchronized\\b", "\\bassert\\b",
        "\\bpackage\\b", "\\bimport\\b", "->", "::", "\\bprotected\\b", "Exact\\b", "\\bObject\\b",
        "\\bSystem\\.(?!arraycopy)", "\\bThread\\b", "\\bRandom\\b", "\\bstatic \\{", "\\bhashCode\\b");

    private static final Due DUE = new Due("FaceTest");

    public static void main(String[] args) throws IOException {
        documentsFace();
        face();
        constants();
        insideClasses();
        source();
        room();
        DUE.end();
    }

    /** METHODS are those of the document, as it stands now. */
    private static void documentsFace() throws IOException {
        Matcher told = Pattern.compile("(?m)^    public (int|long) (\\w+)\\((.*)\\);$").matcher(Home.read("../shared/DOC.md"));
        Set<String> seen = new TreeSet<>();
        while (told.find()) {
            seen.add(told.group(1) + " " + told.group(2) + "(" + told.group(3).replaceAll("(int|boolean) \\w+", "$1") + ")");
        }
        DUE.holds("the methods looked for are the document's: " + seen, seen.equals(METHODS));
    }

    private static void face() {
        DUE.holds("public", Modifier.isPublic(LiarsAnswers.class.getModifiers()));
        DUE.holds("final", Modifier.isFinal(LiarsAnswers.class.getModifiers()));
        Set<String> seen = new TreeSet<>();
        Set<String> names = new TreeSet<>();
        for (Method method : LiarsAnswers.class.getDeclaredMethods()) {
            if (!Modifier.isPrivate(method.getModifiers())) {
                String types = Arrays.toString(Arrays.stream(method.getParameterTypes()).map(Class::getName).toArray());
                seen.add(method.getReturnType().getName() + " " + method.getName()
                    + "(" + types.substring(1, types.length() - 1) + ")");
                names.add(method.getName());
            }
        }
        DUE.holds("the methods are the document's: " + seen, seen.equals(METHODS));
        for (Method method : LiarsAnswers.class.getDeclaredMethods()) {
            if (Modifier.isPrivate(method.getModifiers())) {
                DUE.holds("private " + method.getName(), !names.contains(method.getName()));
            }
        }
        Constructor<?>[] constructors = LiarsAnswers.class.getDeclaredConstructors();
        DUE.is("constructors", constructors.length, 1);
        DUE.is("its parameters", constructors[0].getParameterCount(), 0);
        DUE.holds("it is public", Modifier.isPublic(constructors[0].getModifiers()));
    }

    private static void constants() {
        Set<String> seen = new TreeSet<>();
        for (Field field : LiarsAnswers.class.getDeclaredFields()) {
            int modifiers = field.getModifiers();
            if (!Modifier.isPrivate(modifiers)) {
                seen.add(field.getName());
            }
            DUE.holds("a static field is final: " + field, !Modifier.isStatic(modifiers) || Modifier.isFinal(modifiers));
        }
        DUE.holds("the constants are the document's", seen.equals(new TreeSet<>(List.of("BAD", "STATE", "FULL", "NONE"))));
        DUE.is("BAD", LiarsAnswers.BAD, -1);
        DUE.is("STATE", LiarsAnswers.STATE, -2);
        DUE.is("FULL", LiarsAnswers.FULL, -3);
        DUE.is("NONE", LiarsAnswers.NONE, -9);
    }

    private static void insideClasses() {
        Class<?>[] inside = LiarsAnswers.class.getDeclaredClasses();
        DUE.holds("twelve classes at most", inside.length + 1 <= 12);
        for (Class<?> one : inside) {
            DUE.holds(one + " is static", Modifier.isStatic(one.getModifiers()));
            DUE.holds(one + " is not public", !Modifier.isPublic(one.getModifiers()));
            DUE.holds(one + " has twenty fields at most", one.getDeclaredFields().length <= 20);
            for (Method method : one.getDeclaredMethods()) {
                DUE.holds(method + " takes seven at most", method.getParameterCount() <= 7);
            }
        }
    }

    private static void source() throws IOException {
        String text = Home.read("src/main/java/LiarsAnswers.java").replaceAll("(?s)/\\*.*?\\*/", "").replaceAll("//[^\n]*", "");
        for (String word : FORBIDDEN) {
            DUE.holds("the source is without " + word, !Pattern.compile(word).matcher(text).find());
        }
        Matcher library = Pattern.compile("\\b(Math|Integer|Long|Arrays)\\.(\\w+)").matcher(text);
        while (library.find()) {
            DUE.holds("library " + library.group(), Set.of("max", "min", "bitCount").contains(library.group(2)));
        }
    }

    /** All rows stand once they were needed: no call makes objects of its own. */
    private static void room() {
        ThreadMXBean threads = (ThreadMXBean) ManagementFactory.getThreadMXBean();
        dearestRun();
        long before = threads.getCurrentThreadAllocatedBytes();
        dearestRun();
        long bytes = threads.getCurrentThreadAllocatedBytes() - before;
        DUE.holds("a run of 512 calls takes " + bytes + " bytes, 200000 at most", bytes <= 200000);
    }

    private static void dearestRun() {
        LiarsAnswers x = new LiarsAnswers();
        for (int k = 0; k < 64; k++) {
            x.begin(k % 3, k % 2 == 0 ? 6 : 16, k % 5 == 0 ? 3 : 2);
            x.spans();
            x.ask(k);
            x.worse();
            x.answer(true);
            x.best();
            x.set(k);
            x.cost(2, true, false);
        }
    }
}
