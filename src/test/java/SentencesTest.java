import java.io.IOException;
import java.lang.reflect.Method;
import java.nio.charset.StandardCharsets;
import java.nio.file.Files;
import java.nio.file.Path;
import java.util.regex.Matcher;
import java.util.regex.Pattern;

/** Each word of the promises 1 to 47, of 'Terms' and of the 512 calls stands in what some test of boundaries says it looks at. */
final class SentencesTest {
    private static final Class<?>[] TESTS = {EdgesRowsTest.class, EdgesClubsTest.class, EdgesDeedsTest.class, EdgesSmokeTest.class,
        EdgesSetsTest.class, EdgesChancesTest.class, EdgesToldTest.class, EdgesTermsTest.class, OrderTest.class};

    private SentencesTest() {
    }

    public static void main(String[] args) throws IOException {
        String words = Edges.document();
        if (words.isEmpty()) {
            return;
        }
        Matcher m = Pattern.compile("## Promise (\\d+): .*?`: (.*?) (?=## )").matcher(words);
        int promises = 0;
        while (m.find()) {
            promises++;
            Check.due("the number of a promise", Integer.parseInt(m.group(1)), promises);
            everyWordIsLookedAt(promises, m.group(2));
        }
        Check.due("promises", promises, 47);
        everyWordOf("Terms", part(words, "## Terms", "## Promise 1:"));
        everyWordOf("the 512 calls", part(words, "An object is used", "## The public face"));
        everyTestIsListed();
        Check.end();
    }

    private static void everyWordIsLookedAt(int promise, String section) {
        boolean[] seen = new boolean[section.length()];
        int tests = 0;
        for (Class<?> c : TESTS) {
            for (Method m : Edges.testsOf(c)) {
                Edges.Doc doc = m.getAnnotation(Edges.Doc.class);
                if (doc.promise() == promise) {
                    tests++;
                    for (String says : doc.says()) {
                        mark(seen, section, says);
                    }
                }
            }
        }
        Check.holds("promise " + promise + " has a test", tests > 0);
        String left = left(seen, section);
        Check.holds("promise " + promise + ", without a test: " + left, left.isEmpty());
    }

    /** Words that hold for several promises may be looked at by a test of any of these. */
    private static void everyWordOf(String what, String section) {
        boolean[] seen = new boolean[section.length()];
        for (Class<?> c : TESTS) {
            for (Method m : Edges.testsOf(c)) {
                for (String says : m.getAnnotation(Edges.Doc.class).says()) {
                    mark(seen, section, says);
                }
            }
        }
        String left = left(seen, section);
        Check.holds(what + ", without a test: " + left, left.isEmpty());
    }

    private static String part(String words, String from, String to) {
        int begin = words.indexOf(from);
        int end = words.indexOf(to);
        boolean found = begin >= 0 && end > begin;
        Check.holds("'" + from + "' stands ahead of '" + to + "'", found);
        return found ? words.substring(begin, end).replace("## Terms", "").replace("```text", "") : "";
    }

    private static void mark(boolean[] seen, String section, String says) {
        for (int from = section.indexOf(says); from >= 0; from = section.indexOf(says, from + 1)) {
            for (int i = from; i < from + says.length(); i++) {
                seen[i] = true;
            }
        }
    }

    private static String left(boolean[] seen, String section) {
        StringBuilder left = new StringBuilder();
        for (int i = 0; i < seen.length; i++) {
            left.append(seen[i] ? ' ' : section.charAt(i));
        }
        return left.toString().replaceAll("[^A-Za-z0-9()]+", " ").strip();
    }

    /** No file of such tests is forgotten above. */
    private static void everyTestIsListed() throws IOException {
        String source = System.getProperty("clubsmoke.source", "src/main/java/ClubSmoke.java");
        Path folder = Path.of(source).toAbsolutePath().getParent().resolve("../../test/java").normalize();
        int files = 0;
        try (var all = Files.list(folder)) {
            for (Path p : (Iterable<Path>) all::iterator) {
                boolean isTest = p.getFileName().toString().endsWith("Test.java");
                files += isTest && Files.readString(p, StandardCharsets.UTF_8).contains("@Edges." + "Doc(") ? 1 : 0;
            }
        }
        Check.due("files with tests of boundaries", files, TESTS.length);
    }
}
