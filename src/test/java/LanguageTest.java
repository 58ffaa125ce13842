import java.io.IOException;
import java.nio.charset.StandardCharsets;
import java.nio.file.Files;
import java.nio.file.Path;
import java.util.regex.Matcher;
import java.util.regex.Pattern;

/** What can be read off the source of LANGUAGE.md's rules: words that are ruled out, calls of the library, long methods. */
final class LanguageTest {
    private static final String[] RULED_OUT = {"throw", "throws", "try", "catch", "finally", "synchronized", "assert",
        "import", "package", "native", "volatile", "transient", "protected", "double", "float", "Object", "Thread",
        "Runtime", "Random", "clock", "nanoTime", "currentTimeMillis", "Iterator", "hashCode", "toString", "equals",
        "getClass", "instanceof", "goto"};
    private static final String[] LIBRARY = {"Math.max", "Math.min", "Integer.bitCount", "System.arraycopy"};

    private LanguageTest() {
    }

    public static void main(String[] args) throws IOException {
        String path = System.getProperty("clubsmoke.source", "src/main/java/ClubSmoke.java");
        String whole = Files.readString(Path.of(path), StandardCharsets.ISO_8859_1);
        for (int i = 0; i < whole.length(); i++) {
            Check.holds("sign " + i + " is plain", whole.charAt(i) < 127);
        }
        String code = withoutComments(whole);
        for (String word : RULED_OUT) {
            Check.holds("'" + word + "' is not there", !Pattern.compile("\\b" + word + "\\b").matcher(code).find());
        }
        Check.holds("no lambda", !code.contains("->"));
        Check.holds("no method reference", !code.contains("::"));
        Check.holds("no text", !code.contains("\""));
        Check.holds("no loop without a counter", !Pattern.compile("\\b(while|do)\\b").matcher(code).find());
        library(code);
        methodLengths(whole);
        Check.end();
    }

    private static String withoutComments(String s) {
        return s.replaceAll("(?s)/\\*.*?\\*/", "").replaceAll("//[^\\n]*", "");
    }

    private static void library(String code) {
        Matcher m = Pattern.compile("\\b(Math|Integer|Long|System|Arrays|String|StringBuilder)\\.\\w+").matcher(code);
        while (m.find()) {
            boolean known = false;
            for (String call : LIBRARY) {
                known |= call.equals(m.group());
            }
            Check.holds(m.group() + " is in the library", known);
        }
    }

    /** A method begins with a line that opens a brace at depth 1 or 2 and is no class. */
    private static void methodLengths(String whole) {
        int began = -1;
        int indent = 0;
        String[] lines = whole.split("\n");
        for (int i = 0; i < lines.length; i++) {
            String line = lines[i];
            int blanks = line.length() - line.stripLeading().length();
            boolean opens = line.endsWith("{") && line.contains("(") && (blanks == 4 || blanks == 8);
            if (began < 0 && opens) {
                began = i;
                indent = blanks;
            } else if (began >= 0 && blanks == indent && line.strip().equals("}")) {
                Check.holds("method at line " + (began + 1) + " is short", i - began < 60);
                began = -1;
            }
        }
    }
}
