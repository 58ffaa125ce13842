import java.lang.reflect.Constructor;
import java.lang.reflect.Field;
import java.lang.reflect.Method;
import java.lang.reflect.Modifier;
import java.util.Arrays;
import java.util.Set;
import java.util.TreeMap;
import java.util.TreeSet;

/** The public face, member by member, and what LANGUAGE.md says of members (rules 1, 2, 5, 11). */
final class FaceTest {
    private static final String[] INT_CALLS = {"row 2", "lay 3", "at 2", "tear 1", "copy 5", "mean 1", "text 2", "put 3",
        "fault 1", "club 1", "member 2", "mark 2", "smoke 1", "talk 2", "hour 0", "open 1", "thunder 0", "undo 1",
        "keep 1", "on 1", "says 2", "breathes 2", "means 2", "least 2", "hangs 2", "clear 0", "window 1", "talks 4",
        "sets 2", "sure 2", "ask 2", "who 1", "kinds 1", "test 1", "leaks 1", "evening 2", "odds 3", "mid 2", "lots 2",
        "asked 0", "count 1", "finding 0", "findings 1"};
    private static final String[] LONG_CALLS = {"upper 0", "lower 0", "digest 0"};

    private FaceTest() {
    }

    public static void main(String[] args) throws ReflectiveOperationException {
        constants();
        face();
        names();
        classesInside();
        Check.end();
    }

    private static void constants() throws ReflectiveOperationException {
        TreeMap<String, Integer> due = new TreeMap<>();
        due.put("BAD", -1);
        due.put("FULL", -2);
        due.put("FINDING", -3);
        due.put("STATE", -4);
        due.put("SPENT", -6);
        due.put("NONE", -9);
        for (Field f : ClubSmoke.class.getDeclaredFields()) {
            int m = f.getModifiers();
            if (due.containsKey(f.getName())) {
                Check.holds(f.getName() + " is a public constant",
                    Modifier.isPublic(m) && Modifier.isStatic(m) && Modifier.isFinal(m) && f.getType() == int.class);
                Check.due(f.getName(), f.getInt(null), due.remove(f.getName()));
            } else {
                Check.holds(f.getName() + " is private", Modifier.isPrivate(m));
            }
        }
        Check.due("constants missing", due.size(), 0);
    }

    private static void face() {
        Set<String> due = new TreeSet<>();
        for (String s : INT_CALLS) due.add("int " + s);
        for (String s : LONG_CALLS) due.add("long " + s);
        Check.due("46 calls", due.size(), 46);
        for (Method m : ClubSmoke.class.getDeclaredMethods()) {
            if (Modifier.isPrivate(m.getModifiers())) continue;
            String name = m.getReturnType() + " " + m.getName() + " " + m.getParameterCount();
            Check.holds(name + " is in the document", due.remove(name));
            Check.holds(name + " is public", Modifier.isPublic(m.getModifiers()) && !Modifier.isStatic(m.getModifiers()));
            Check.holds(name + " takes ints", Arrays.stream(m.getParameterTypes()).allMatch(t -> t == int.class));
        }
        Check.due("calls missing: " + due, due.size(), 0);
        Constructor<?>[] made = ClubSmoke.class.getDeclaredConstructors();
        Check.due("one constructor", made.length, 1);
        Check.holds("public, without arguments", Modifier.isPublic(made[0].getModifiers()) && made[0].getParameterCount() == 0);
        int m = ClubSmoke.class.getModifiers();
        Check.holds("public final class", Modifier.isPublic(m) && Modifier.isFinal(m));
    }

    private static void names() {
        Set<String> open = new TreeSet<>();
        for (Method m : ClubSmoke.class.getMethods()) open.add(m.getName());
        for (Method m : ClubSmoke.class.getDeclaredMethods()) {
            if (Modifier.isPrivate(m.getModifiers())) {
                Check.holds("private " + m.getName() + " has a name of its own", !open.contains(m.getName()));
            }
        }
        for (Class<?> c : ClubSmoke.class.getDeclaredClasses()) {
            for (Method m : c.getDeclaredMethods()) {
                Check.holds(c.getSimpleName() + "." + m.getName() + " has a name of its own", !open.contains(m.getName()));
            }
        }
    }

    private static void classesInside() {
        Class<?>[] inside = ClubSmoke.class.getDeclaredClasses();
        Check.holds("at most twelve classes", inside.length + 1 <= 12);
        small(ClubSmoke.class);
        for (Class<?> c : inside) {
            int m = c.getModifiers();
            Check.holds(c + " is static", Modifier.isStatic(m));
            Check.holds(c + " is not public", !Modifier.isPublic(m) && !Modifier.isProtected(m));
            small(c);
        }
    }

    private static void small(Class<?> c) {
        int fields = 0;
        for (Field f : c.getDeclaredFields()) {
            if (Modifier.isStatic(f.getModifiers())) {
                Check.holds(f + " is final", Modifier.isFinal(f.getModifiers()));
            } else {
                fields++;
            }
        }
        Check.holds(c + " has at most twenty fields", fields <= 20);
        for (Method m : c.getDeclaredMethods()) {
            Check.holds(m + " takes at most seven", m.getParameterCount() <= 7);
            Check.holds(m + " is not made by the compiler", !m.isSynthetic());
        }
    }
}
