import java.io.IOException;
import java.lang.annotation.ElementType;
import java.lang.annotation.Retention;
import java.lang.annotation.RetentionPolicy;
import java.lang.annotation.Target;
import java.lang.reflect.Method;
import java.nio.charset.StandardCharsets;
import java.nio.file.Files;
import java.nio.file.Path;
import java.util.ArrayList;
import java.util.Arrays;
import java.util.Comparator;
import java.util.List;

/** What the tests of boundaries share: sentences by their promise, numbers around a range, refused calls beside a twin. */
final class Edges {
    static final int MIN = Integer.MIN_VALUE, MAX = Integer.MAX_VALUE;
    static final int BAD = -1, FULL = -2, FINDING = -3, STATE = -4, NONE = -9;
    static final int NOTHING = 1, BEYOND = 2, UNLIKE = 3, NOUGHT = 4, SIZE = 5;
    static final String SIX = "p35 m0b1y1f2a4v1";

    /** The promise that a test looks at, and the document's own words for it. */
    @Retention(RetentionPolicy.RUNTIME)
    @Target(ElementType.METHOD)
    @interface Doc {
        int promise();

        String[] says();
    }

    interface State {
        ClubSmoke make();
    }

    interface Call {
        long of(ClubSmoke x);
    }

    interface Given {
        long of(ClubSmoke x, int v);
    }

    private Edges() {
    }

    // ---- running

    static void run(Class<?> tests) throws ReflectiveOperationException, IOException {
        List<Method> found = testsOf(tests);
        String words = document();
        for (Method m : found) {
            Doc doc = m.getAnnotation(Doc.class);
            Check.inside("promise " + doc.promise() + ", " + m.getName() + ": ");
            for (String says : doc.says()) {
                Check.holds("'" + says + "' stands in the document", words.isEmpty() || words.contains(plain(says)));
            }
            m.invoke(null);
        }
        Check.inside("");
        System.out.println(found.size() + " sentences");
        Check.end();
    }

    static List<Method> testsOf(Class<?> tests) {
        List<Method> found = new ArrayList<>();
        for (Method m : tests.getDeclaredMethods()) {
            if (m.isAnnotationPresent(Doc.class)) {
                found.add(m);
            }
        }
        found.sort(Comparator.comparing((Method m) -> m.getAnnotation(Doc.class).promise()).thenComparing(Method::getName));
        return found;
    }

    /** Empty where there is no document: quotes can't be looked at then, but the class still can. */
    static String document() throws IOException {
        Path path = Path.of(System.getProperty("clubsmoke.document", "../shared/DOC.md"));
        if (!Files.isReadable(path)) {
            System.out.println("no document at " + path + ", its words are not looked at");
            return "";
        }
        return plain(Files.readString(path, StandardCharsets.UTF_8));
    }

    private static String plain(String s) {
        return s.replaceAll("\\s+", " ");
    }

    // ---- answers

    static void answers(String what, State state, Call call, long due) {
        Check.due(what, call.of(state.make()), due);
    }

    /** A call that answers 1 and tells by asked(). */
    static void tells(String what, ClubSmoke x, Call call, long due) {
        Check.due(what, call.of(x), 1);
        Check.due(what + ", asked()", x.asked(), due);
    }

    static void tellsAside(String what, ClubSmoke x, Call call, long answer, long asked) {
        Check.due(what, call.of(x), answer);
        Check.due(what + ", asked()", x.asked(), asked);
    }

    static void tellsBy(String what, ClubSmoke x, Call call, long upper, long lower) {
        Check.due(what, call.of(x), 1);
        Check.due(what + ", upper()", x.upper(), upper);
        Check.due(what + ", lower()", x.lower(), lower);
    }

    /** BAD just outside of least .. most and at the ends of int; not BAD at the least and the most. */
    static void range(String what, State state, int least, int most, Given given) {
        long[] outside = {MIN, (long) least - 1, (long) most + 1, MAX};
        for (long v : outside) {
            boolean isInt = v >= MIN && v <= MAX;
            if (isInt && (v < least || v > most)) {
                refused(what + " " + v, state, x -> given.of(x, (int) v), BAD);
            }
        }
        Check.holds(what + " " + least + " is not BAD", given.of(state.make(), least) != BAD);
        Check.holds(what + " " + most + " is not BAD", given.of(state.make(), most) != BAD);
    }

    // ---- what is refused

    /** The call answers so, tells no finding, and leaves its object like a twin that was not called. */
    static void refused(String what, State state, Call call, int answer) {
        likeTwin(what, state, call, answer, 0);
    }

    static void finds(String what, State state, Call call, int finding) {
        likeTwin(what, state, call, FINDING, finding);
    }

    private static void likeTwin(String what, State state, Call call, int answer, int finding) {
        ClubSmoke x = state.make();
        ClubSmoke twin = state.make();
        Check.due(what, call.of(x), answer);
        Check.due(what + ", finding()", x.finding(), finding == 0 ? twin.finding() : finding);
        for (int f = 1; f <= 5; f++) {
            Check.due(what + ", findings(" + f + ")", x.findings(f), twin.findings(f) + (f == finding ? 1 : 0));
        }
        List<Long> got = seen(x);
        List<Long> want = seen(twin);
        Check.holds(what + " changes nothing: " + got + ", due is " + want, got.equals(want));
    }

    /** All that can be seen, the deeds and those of kept clubs taken back one by one. */
    private static List<Long> seen(ClubSmoke x) {
        List<Long> all = new ArrayList<>(List.of((long) x.asked(), x.upper(), x.lower(), x.digest()));
        takeBack(x, all);
        for (int k = 0; k < 3; k++) {
            if (x.on(k) >= 0) {
                all.add(x.digest());
                takeBack(x, all);
            }
        }
        return all;
    }

    private static void takeBack(ClubSmoke x, List<Long> all) {
        for (int n = x.count(3) - 1; n >= 0; n--) {
            x.undo(n);
            all.add(x.digest());
        }
    }

    // ---- states

    static State club(String signs) {
        return () -> Check.club(signs);
    }

    static State written(int t, String signs) {
        return () -> {
            ClubSmoke x = new ClubSmoke();
            Check.write(x, t, signs);
            return x;
        };
    }

    static State row(int r, int... values) {
        return () -> {
            ClubSmoke x = new ClubSmoke();
            Check.fill(x, r, values);
            return x;
        };
    }

    static int[] many(int n, int v) {
        int[] values = new int[n];
        Arrays.fill(values, v);
        return values;
    }

    /** Without members, but with rows 1 (two notes), 2 (empty), 3 (three ints), texts 1 (a fault), 2 (empty). */
    static ClubSmoke shelves() {
        ClubSmoke x = new ClubSmoke();
        furnish(x);
        return x;
    }

    /** Six members; deeds, two kept clubs, rows and texts as shelves() has them, and something told of each sort. */
    static ClubSmoke busy() {
        ClubSmoke x = Check.club(SIX);
        x.talk(1, 99);
        x.keep(0);
        x.hour();
        x.talk(5, 99);
        x.open(0);
        x.keep(2);
        x.talk(0, 80);
        x.thunder();
        x.talk(4, 77);
        x.talk(2, 39);
        x.mid(3, 5);
        furnish(x);
        return x;
    }

    /** Forty deeds; 20 hang in cell 0, 900 in cell 1, nothing in the other three. */
    static ClubSmoke fullClub() {
        ClubSmoke x = Check.club(SIX);
        x.talk(0, 99);
        x.keep(1);
        hours(x, 20);
        talks(x, 18, 5, 50);
        x.talk(0, 40);
        return x;
    }

    static ClubSmoke fullWithoutSmoke() {
        ClubSmoke x = Check.club(SIX);
        x.talk(0, 99);
        x.thunder();
        hours(x, 38);
        return x;
    }

    static void hours(ClubSmoke x, int n) {
        for (int k = 0; k < n; k++) {
            x.hour();
        }
    }

    static void talks(ClubSmoke x, int n, int i, int v) {
        for (int k = 0; k < n; k++) {
            x.talk(i, v);
        }
    }

    private static void furnish(ClubSmoke x) {
        Check.fill(x, 1, 47, 23, 10, 5);
        x.row(2, 0);
        Check.fill(x, 3, MAX, MIN, 7);
        Check.write(x, 1, "p35x");
        x.text(2, 0);
        x.at(3, 0);
        x.at(3, 3);
    }
}
