import java.io.IOException;
import java.lang.reflect.Method;
import java.util.ArrayList;
import java.util.List;
import java.util.regex.Pattern;

/**
 * Holds the tests of boundary cases against the document: each cites words that stand there, and there
 * is no part of a promise, and no boundary among the terms, that none of them cites.
 */
public final class BoundaryCoverageTest {
    private static final int PROMISES = 23;
    private static final List<Class<?>> TESTS =
        List.of(TermsBoundaryTest.class, GameBoundaryTest.class, CodeBoundaryTest.class);
    /** Ends of sentences and of parts of them; '..' of a range ends nothing. */
    private static final Pattern ENDS = Pattern.compile("(?<!\\.)[.;](?!\\.)");
    private static final Pattern NAMES_A_BOUNDARY =
        Pattern.compile("\\b(BAD|STATE|FULL|NONE|OUT|WAITS|at most|above|below|more than|least|all)\\b|\\.\\.|\\d");

    private static final Due DUE = new Due("BoundaryCoverageTest");

    public static void main(String[] args) throws IOException {
        String[] sections = sections();
        List<Of> cited = cited();
        for (Of of : cited) {
            DUE.holds("promise " + of.promise() + " says '" + of.says() + "'",
                partsOf(sections[of.promise()]).stream().anyMatch(part -> part.contains(of.says())));
        }
        for (int promise = 0; promise <= PROMISES; promise++) {
            for (String part : partsOf(sections[promise])) {
                if (promise > 0 || NAMES_A_BOUNDARY.matcher(part).find()) {
                    DUE.holds("a test of promise " + promise + " cites '" + part + "'", isCited(part, promise, cited));
                }
            }
        }
        DUE.end();
    }

    private static boolean isCited(String part, int promise, List<Of> cited) {
        return cited.stream().anyMatch(of -> of.promise() == promise && part.contains(of.says()));
    }

    private static List<Of> cited() {
        List<Of> cited = new ArrayList<>();
        for (Class<?> tests : TESTS) {
            for (Method test : Boundary.testsOf(tests)) {
                cited.add(test.getAnnotation(Of.class));
            }
        }
        return cited;
    }

    /** [0] is what stands ahead of promise 1, without the face; then each promise behind its signature. */
    private static String[] sections() throws IOException {
        String doc = Home.read("../shared/DOC.md");
        String[] sections = new String[PROMISES + 1];
        sections[0] = between(doc, "## What it is", "## The public face") + between(doc, "## Terms", "## Promise 1:");
        for (int promise = 1; promise <= PROMISES; promise++) {
            String next = promise == PROMISES ? "## Not promised" : "## Promise " + (promise + 1) + ":";
            String section = between(doc, "## Promise " + promise + ":", next);
            sections[promise] = section.substring(section.indexOf("`: ") + 3);
        }
        return sections;
    }

    private static String between(String doc, String from, String to) {
        int start = doc.indexOf(from);
        int end = doc.indexOf(to);
        if (start < 0 || end < start) {
            throw new IllegalStateException("the document has no '" + from + "' ahead of '" + to + "'");
        }
        return doc.substring(start + from.length(), end);
    }

    private static List<String> partsOf(String section) {
        String text = section.replaceAll("\\s+", " ");
        return ENDS.splitAsStream(text).map(String::strip).filter(part -> part.length() > 1).toList();
    }
}
