import java.io.IOException;
import java.lang.reflect.InvocationTargetException;
import java.lang.reflect.Method;
import java.lang.reflect.Modifier;
import java.util.Arrays;
import java.util.HashMap;
import java.util.List;
import java.util.Map;
import java.util.Set;
import java.util.TreeSet;
import java.util.regex.Matcher;
import java.util.regex.Pattern;
import java.util.stream.Collectors;

/** README.md is true of the code: its examples are run as they stand there, and its lists leave nothing out. */
public final class ReadmeTest {
    private static final Pattern BLOCK = Pattern.compile("(?s)```java\n(.*?)```");
    private static final Pattern MADE = Pattern.compile("LiarsAnswers (\\w+) = new LiarsAnswers\\(\\);.*");
    /** A call, and behind it the number that it answers. */
    private static final Pattern CALLED = Pattern.compile("(\\w+)\\.(\\w+)\\(([^)]*)\\);\\s+// (-?\\d+)(\\D.*)?");
    /** The first column of a row of the table of calls. */
    private static final Pattern LISTED = Pattern.compile("(?m)^\\| `(\\w+)\\(([^)]*)\\)` \\|");
    private static final Pattern NAMED_TEST = Pattern.compile("(?m)^\\| `(\\w+Test)` \\|");

    private static final Due DUE = new Due("ReadmeTest");

    public static void main(String[] args) throws IOException {
        String readme = Home.read("README.md");
        Set<String> shown = new TreeSet<>();
        Matcher block = BLOCK.matcher(readme);
        while (block.find()) {
            shown.addAll(example(block.group(1)));
        }
        DUE.holds("every call is shown with what it answers: " + shown, shown.equals(publicMethods().keySet()));
        callsListed(readme);
        testsListed(readme);
        DUE.holds("it tells how the tests are run", readme.contains("    .ci/run\n"));
        DUE.end();
    }

    private static Map<String, Method> publicMethods() {
        return Arrays.stream(LiarsAnswers.class.getDeclaredMethods())
            .filter(method -> Modifier.isPublic(method.getModifiers()))
            .collect(Collectors.toMap(Method::getName, method -> method));
    }

    /** Which calls it shows. */
    private static Set<String> example(String text) {
        Map<String, LiarsAnswers> objects = new HashMap<>();
        Set<String> shown = new TreeSet<>();
        for (String line : text.lines().filter(line -> !line.isBlank()).toList()) {
            Matcher made = MADE.matcher(line);
            Matcher called = CALLED.matcher(line);
            if (made.matches()) {
                objects.put(made.group(1), new LiarsAnswers());
            } else if (called.matches() && objects.containsKey(called.group(1))) {
                shown.add(called.group(2));
                run(line, objects.get(called.group(1)), called);
            } else {
                DUE.holds("a line that makes an object, or a call and its answer: " + line, false);
            }
        }
        return shown;
    }

    private static void run(String line, LiarsAnswers x, Matcher called) {
        Method method = publicMethods().get(called.group(2));
        DUE.holds("such a call there is: " + line, method != null);
        if (method == null) {
            return;
        }
        try {
            Number answer = (Number) method.invoke(x, given(called.group(3), method.getParameterTypes()));
            DUE.is(line, answer.longValue(), Long.parseLong(called.group(4)));
        } catch (InvocationTargetException | IllegalAccessException | IllegalArgumentException thrown) {
            DUE.holds("it can be called: " + line + " " + thrown, false);
        }
    }

    private static Object[] given(String text, Class<?>[] types) {
        String[] words = text.isBlank() ? new String[0] : text.split(", ");
        Object[] given = new Object[words.length];
        for (int k = 0; k < words.length; k++) {
            if (k < types.length && types[k] == boolean.class) {
                given[k] = Boolean.valueOf(words[k]);
            } else {
                given[k] = Integer.decode(words[k]);
            }
        }
        return given;
    }

    private static void callsListed(String readme) {
        Map<String, Method> methods = publicMethods();
        Set<String> listed = new TreeSet<>();
        Matcher row = LISTED.matcher(readme);
        while (row.find()) {
            Method method = methods.get(row.group(1));
            int given = row.group(2).isBlank() ? 0 : row.group(2).split(", ").length;
            DUE.holds("such a call there is: " + row.group(), method != null && method.getParameterCount() == given);
            listed.add(row.group(1));
        }
        DUE.holds("every call is listed: " + listed, listed.equals(methods.keySet()));
    }

    private static void testsListed(String readme) throws IOException {
        Set<String> listed = new TreeSet<>();
        Matcher row = NAMED_TEST.matcher(readme);
        while (row.find()) {
            listed.add(row.group(1));
        }
        String[] names = Home.at("src/test/java").toFile().list((folder, name) -> name.endsWith("Test.java"));
        Set<String> there = new TreeSet<>();
        for (String name : names == null ? new String[0] : names) {
            there.add(name.substring(0, name.length() - ".java".length()));
        }
        DUE.holds("the tests that are listed, " + listed + ", are those that are there, " + there, listed.equals(there));
        for (String helper : List.of("NaiveLiar", "Look", "Asked")) {
            DUE.holds(helper + " is there", Home.at("src/test/java/" + helper + ".java").toFile().isFile());
        }
    }
}
