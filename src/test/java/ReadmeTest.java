import java.io.IOException;
import java.lang.reflect.Method;
import java.lang.reflect.Modifier;
import java.net.URL;
import java.net.URLClassLoader;
import java.nio.charset.StandardCharsets;
import java.nio.file.Files;
import java.nio.file.Path;
import java.util.ArrayList;
import java.util.List;
import java.util.Set;
import java.util.TreeSet;
import java.util.function.BiConsumer;
import java.util.regex.Matcher;
import java.util.regex.Pattern;
import java.util.stream.Stream;
import javax.tools.JavaCompiler;
import javax.tools.ToolProvider;

/** The calls that README.md shows answer what it says of them: its code is compiled and run, as it stands there. */
public final class ReadmeTest {
    private static final Pattern BLOCK = Pattern.compile("(?ms)^```java\n(.*?)^```$");
    private static final Pattern SHOWN = Pattern.compile("( *)(x\\.(\\w+)\\(.*\\)); +// (-?\\d+|[A-Z]+)(:.*)?");

    /** A call as it is shown, and what it is said to answer. */
    private record Claim(String call, String name, long due) {
    }

    private ReadmeTest() {
    }

    public static void main(String[] args) throws IOException, ReflectiveOperationException {
        Path readme = Path.of(System.getProperty("clubsmoke.readme", "README.md"));
        String words = Files.readString(readme, StandardCharsets.UTF_8);
        List<Claim> claims = new ArrayList<>();
        String code = codeOf(words, claims);
        int[] made = new int[claims.size()];
        BiConsumer<Integer, Long> answers = (k, got) -> {
            made[k]++;
            Check.due("README.md: " + claims.get(k).call(), got, claims.get(k).due());
        };
        run(code, answers);
        int calls = 0;
        for (int k = 0; k < made.length; k++) {
            calls += made[k];
            Check.holds("README.md: " + claims.get(k).call() + " is made", made[k] > 0);
        }
        Check.holds("README.md makes at most 512 calls, but makes " + calls, calls <= 512);
        everyCallIsShown(claims);
        everyTestIsTold(words, readme.toAbsolutePath().getParent().resolve("src/test/java"));
        Check.end();
    }

    /** All blocks one behind the other, each call with an answer handed over instead of dropped. */
    private static String codeOf(String words, List<Claim> claims) throws ReflectiveOperationException {
        StringBuilder code = new StringBuilder();
        Matcher block = BLOCK.matcher(words);
        while (block.find()) {
            for (String line : block.group(1).split("\n")) {
                Matcher shown = SHOWN.matcher(line);
                if (shown.matches()) {
                    code.append("answers.accept(" + claims.size() + ", (long) " + shown.group(2) + ");\n");
                    claims.add(new Claim(shown.group(2), shown.group(3), answer(shown.group(4))));
                } else {
                    Check.holds("README.md says what is answered: " + line, !line.contains("x."));
                    code.append(line).append('\n');
                }
            }
        }
        return code.toString();
    }

    private static long answer(String told) throws ReflectiveOperationException {
        boolean isNumber = !Character.isLetter(told.charAt(0));
        return isNumber ? Long.parseLong(told) : ClubSmoke.class.getField(told).getInt(null);
    }

    private static void run(String code, BiConsumer<Integer, Long> answers) throws IOException, ReflectiveOperationException {
        Path folder = Files.createTempDirectory("readme");
        Path source = folder.resolve("Shown.java");
        Files.writeString(source, "public final class Shown {\n"
            + "public static void run(java.util.function.BiConsumer<Integer, Long> answers) {\n" + code + "}\n}\n");
        JavaCompiler javac = ToolProvider.getSystemJavaCompiler();
        int status = javac.run(null, null, null, "-cp", System.getProperty("java.class.path"), "-d", folder.toString(), source.toString());
        Check.due("README.md's code compiles", status, 0);
        if (status == 0) {
            try (URLClassLoader loader = new URLClassLoader(new URL[] {folder.toUri().toURL()})) {
                loader.loadClass("Shown").getMethod("run", BiConsumer.class).invoke(null, answers);
            }
        }
        try (Stream<Path> files = Files.list(folder)) {
            for (Path p : files.toList()) {
                Files.delete(p);
            }
        }
        Files.delete(folder);
    }

    private static void everyCallIsShown(List<Claim> claims) {
        Set<String> shown = new TreeSet<>();
        for (Claim c : claims) {
            shown.add(c.name());
        }
        for (Method m : ClubSmoke.class.getDeclaredMethods()) {
            if (Modifier.isPublic(m.getModifiers())) {
                Check.holds("README.md shows " + m.getName() + "()", shown.contains(m.getName()));
            }
        }
    }

    /** Its table has each test of the project, and no other. */
    private static void everyTestIsTold(String words, Path folder) throws IOException {
        Set<String> told = new TreeSet<>();
        Matcher row = Pattern.compile("(?m)^\\| ((?:\\w+Test(?:, )?)+) \\|").matcher(words);
        while (row.find()) {
            told.addAll(List.of(row.group(1).split(", ")));
        }
        Set<String> there = new TreeSet<>();
        try (Stream<Path> files = Files.list(folder)) {
            for (Path p : files.toList()) {
                String name = p.getFileName().toString();
                if (name.endsWith("Test.java")) {
                    there.add(name.substring(0, name.length() - ".java".length()));
                }
            }
        }
        Check.holds("README.md's table has " + told + ", due is " + there, told.equals(there));
    }
}
