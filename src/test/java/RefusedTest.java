import java.lang.reflect.Method;
import java.util.ArrayList;
import java.util.List;
import java.util.Random;

/** What is refused changes nothing but finding(), findings(): calls with edge and wild arguments, in many states. */
final class RefusedTest {
    private static final int[] SOME = {Integer.MIN_VALUE, -9, -1, 0, 1, 2, 3, 5, 6, 7, 8, 12, 13, 16, 20, 21, 40, 41, 60,
        61, 99, 100, 594, 595, 999, 1000, 7992, 7993, Integer.MAX_VALUE};

    private RefusedTest() {
    }

    public static void main(String[] args) throws ReflectiveOperationException {
        List<Method> calls = new ArrayList<>();
        for (Method m : ClubSmoke.class.getMethods()) {
            if (m.getDeclaringClass() == ClubSmoke.class && m.getReturnType() == int.class) {
                calls.add(m);
            }
        }
        calls.sort((a, b) -> a.getName().compareTo(b.getName()));
        Random random = new Random(7);
        int refused = 0;
        for (int round = 0; round < 40; round++) {
            ClubSmoke x = state(round, random);
            for (Method m : calls) {
                for (int k = 0; k < 25; k++) {
                    refused += one(x, m, random) ? 1 : 0;
                }
            }
        }
        Check.holds("many are refused", refused > 5000);
        Check.end();
    }

    private static ClubSmoke state(int round, Random random) {
        ClubSmoke x = round % 4 == 0 ? new ClubSmoke() : Check.club("p" + round % 10 + "5 m0b1y1f2a4v1");
        if (round % 3 != 0) {
            Check.fill(x, 1, 47, 23, 10, 5);
            x.row(2, 0);
            Check.write(x, 2, "p35x");
        }
        if (round % 4 > 1) {
            x.lots(20, 1 + random.nextInt(1000));
            x.keep(1);
            x.lots(20, 1 + random.nextInt(1000));
            x.undo(40 - round % 3);
        }
        x.mean(1);
        x.mid(3, 5);
        return x;
    }

    private static long[] seen(ClubSmoke x) {
        return new long[] {x.digest(), x.asked(), x.upper(), x.lower()};
    }

    /** A finding may be counted, and then just one, the latest. */
    private static boolean one(ClubSmoke x, Method m, Random random) throws ReflectiveOperationException {
        long[] before = seen(x);
        int[] counts = counts(x);
        int latest = x.finding();
        Object[] given = new Object[m.getParameterCount()];
        StringBuilder call = new StringBuilder(m.getName());
        for (int i = 0; i < given.length; i++) {
            given[i] = SOME[random.nextInt(SOME.length)];
            call.append(' ').append(given[i]);
        }
        int answer = (Integer) m.invoke(x, given);
        boolean tells = m.getName().equals("asked") || m.getName().equals("finding");
        boolean refused = !tells && (answer == -1 || answer == -2 || answer == -3 || answer == -4);
        if (!refused && !(answer == -9 && !tells)) {
            return false;
        }
        long[] after = seen(x);
        for (int i = 0; i < before.length; i++) {
            Check.due(call + " answered " + answer + ", seen " + i, after[i], before[i]);
        }
        int more = 0;
        for (int f = 1; f <= 5; f++) {
            int by = x.findings(f) - counts[f];
            more += by;
            if (by != 0) {
                Check.due(call + " finding", x.finding(), f);
            }
        }
        Check.due(call + " counted", more, answer == -3 ? 1 : 0);
        if (answer != -3) {
            Check.due(call + " finding stays", x.finding(), latest);
        }
        return true;
    }

    private static int[] counts(ClubSmoke x) {
        int[] counts = new int[6];
        for (int f = 1; f <= 5; f++) {
            counts[f] = x.findings(f);
        }
        return counts;
    }
}
