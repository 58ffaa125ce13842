/** Promises 22 to 29: what is said and breathed aside, and what hangs. */
final class SmokeTest {
    private static final String SIX = "p35 m0b1y1f2a4v1";

    private SmokeTest() {
    }

    public static void main(String[] args) {
        saysAndBreathes();
        means();
        least();
        hangs();
        clear();
        window();
        talks();
        withoutMembers();
        Check.end();
    }

    private static void saysAndBreathes() {
        ClubSmoke x = Check.club(SIX);
        int[] meant = {0, 1, 2, 3, 9, 10, 47, 98, 99};
        int[][] said = {
            {0, 0, 1, 1, 4, 5, 23, 49, 49},
            {0, 0, 1, 1, 4, 5, 23, 49, 49},
            {0, 0, 0, 0, 0, 10, 40, 90, 90},
            {0, 1, 2, 3, 9, 10, 47, 98, 99},
            {0, 0, 0, 0, 3, 4, 22, 48, 48},
            {0, 1, 2, 3, 9, 0, 7, 8, 9}};
        long before = x.digest();
        for (int i = 0; i < 6; i++) {
            for (int k = 0; k < meant.length; k++) {
                String of = "(" + i + ", " + meant[k] + ")";
                Check.due("says" + of, x.says(i, meant[k]), said[i][k]);
                Check.due("breathes" + of, x.breathes(i, meant[k]), meant[k] - said[i][k]);
            }
        }
        Check.due("aside", x.digest(), before);
        int[][] bad = {{6, 0}, {-1, 0}, {0, 100}, {0, -1}};
        for (int[] b : bad) {
            Check.due("says(" + b[0] + ", " + b[1] + ")", x.says(b[0], b[1]), -1);
            Check.due("breathes(" + b[0] + ", " + b[1] + ")", x.breathes(b[0], b[1]), -1);
        }
    }

    private static void meansDue(ClubSmoke x, int i, int s, int many, int least) {
        Check.due("means(" + i + ", " + s + ")", x.means(i, s), many);
        Check.due("means(" + i + ", " + s + ") told", x.asked(), least);
    }

    private static void means() {
        ClubSmoke x = Check.club(SIX);
        meansDue(x, 0, 0, 2, 0);
        meansDue(x, 0, 49, 2, 98);
        meansDue(x, 0, 50, 0, -9);
        meansDue(x, 2, 90, 10, 90);
        meansDue(x, 2, 91, 0, -9);
        meansDue(x, 3, 99, 1, 99);
        meansDue(x, 4, 0, 4, 0);
        meansDue(x, 4, 1, 2, 4);
        meansDue(x, 4, 49, 0, -9);
        meansDue(x, 5, 9, 10, 9);
        meansDue(x, 5, 10, 0, -9);
        Check.due("means(6, 0)", x.means(6, 0), -1);
        Check.due("means(-1, 0)", x.means(-1, 0), -1);
        Check.due("means(0, 100)", x.means(0, 100), -1);
        Check.due("means(0, -1)", x.means(0, -1), -1);
        Check.due("asked stays", x.asked(), -9);
    }

    private static void least() {
        ClubSmoke x = Check.club(SIX);
        int[][] due = {{0, 0, 0}, {0, 1, 1}, {0, 50, 99}, {0, 51, -9}, {1, 2, 3}, {2, 9, 9}, {2, 10, -9},
            {3, 0, 0}, {3, 1, -9}, {4, 2, 2}, {4, 3, 3}, {4, 4, 5}, {4, 51, 99}, {5, 1, 10}, {5, 90, 90}, {5, 91, -9}};
        for (int[] d : due) {
            Check.due("least(" + d[0] + ", " + d[1] + ")", x.least(d[0], d[1]), d[2]);
        }
        Check.due("least(6, 0)", x.least(6, 0), -1);
        Check.due("least(-1, 0)", x.least(-1, 0), -1);
        Check.due("least(0, 100)", x.least(0, 100), -1);
        Check.due("least(0, -1)", x.least(0, -1), -1);
        Check.due("asked is not told", x.asked(), 0);
    }

    private static void hangs() {
        ClubSmoke x = Check.club("p34 m1 v2");
        x.talk(0, 20);
        x.talk(1, 99);
        x.talk(1, 99);
        int[][] due = {{1, 0, 10}, {1, 3, 1}, {1, 4, 0}, {1, 60, 0}, {2, 59, 3}, {2, 60, 0}, {0, 60, 0}};
        for (int[] d : due) {
            Check.due("hangs(" + d[0] + ", " + d[1] + ")", x.hangs(d[0], d[1]), d[2]);
        }
        Check.due("nothing is done", x.smoke(1), 10);
        Check.due("hangs(4, 0)", x.hangs(4, 0), -1);
        Check.due("hangs(-1, 0)", x.hangs(-1, 0), -1);
        Check.due("hangs(0, 61)", x.hangs(0, 61), -1);
        Check.due("hangs(0, -1)", x.hangs(0, -1), -1);
    }

    private static void clear() {
        ClubSmoke x = Check.club("p34 m1 v2");
        Check.due("now", x.clear(), 0);
        x.talk(0, 18);
        Check.due("9 by 3", x.clear(), 3);
        x.talk(1, 19);
        Check.due("10 by 3", x.clear(), 4);
        ClubSmoke y = Check.club("p04 m1");
        Check.due("no smoke, no leak", y.clear(), 0);
        y.talk(0, 1);
        Check.due("no leak", y.clear(), -9);
        ClubSmoke z = Check.club("p14 v1");
        for (int k = 0; k < 12; k++) {
            z.talk(0, 99);
        }
        Check.due("999 by 1", z.clear(), 999);
    }

    private static void windowDue(ClubSmoke x, int w, int few, int which) {
        Check.due("window(" + w + ")", x.window(w), few);
        Check.due("window(" + w + ") told", x.asked(), which);
    }

    private static void window() {
        ClubSmoke x = Check.club("p34 f0 v1 v2 v3");
        windowDue(x, 0, 0, 0);
        x.talk(1, 20);
        x.talk(2, 30);
        x.talk(3, 20);
        windowDue(x, 70, 0, 0);
        windowDue(x, 69, 1, 2);
        windowDue(x, 50, 1, 2);
        windowDue(x, 49, 1, 4);
        windowDue(x, 40, 1, 4);
        windowDue(x, 39, 2, 6);
        windowDue(x, 20, 2, 6);
        windowDue(x, 19, 3, 14);
        windowDue(x, 0, 3, 14);
        windowDue(x, 7992, 0, 0);
        ClubSmoke y = Check.club("p03 v0 v1 v2");
        y.talk(0, 30);
        y.talk(1, 20);
        y.talk(2, 10);
        windowDue(y, 59, 1, 1);
        windowDue(y, 30, 1, 1);
        windowDue(y, 29, 2, 3);
        windowDue(y, 9, 3, 7);
        windowDue(y, 0, 3, 7);
        Check.due("window(7993)", x.window(7993), -1);
        Check.due("window(-1)", x.window(-1), -1);
        Check.due("nothing is done", x.count(4), 70);
    }

    private static void talksDue(ClubSmoke x, int v, int c, int w, int... line) {
        String call = "talks(" + v + ", " + c + ", " + w + ", 4)";
        Check.due(call, x.talks(v, c, w, 4), line.length);
        for (int k = 0; k < line.length; k++) {
            Check.due(call + " place " + k, Check.place(x, 4, k), line[k]);
        }
        Check.finds(call + " no more", x, x.at(4, line.length), 2);
    }

    private static void talks() {
        ClubSmoke x = Check.club("p34 f1 m1 b0 v1");
        talksDue(x, 47, 1, 0);
        talksDue(x, 47, 1, 1, 1);
        talksDue(x, 47, 1, 25, 3);
        talksDue(x, 47, 1, 41, 1, 1);
        talksDue(x, 47, 1, 49, 1, 3);
        talksDue(x, 47, 1, 65, 3, 3);
        talksDue(x, 47, 1, 81, 1, 1, 3);
        talksDue(x, 47, 1, 89, 1, 3, 3);
        talksDue(x, 47, 1, 120, 3, 3, 3);
        talksDue(x, 47, 3, 7, 2, 2);
        talksDue(x, 47, 0, 36, 2, 2, 2);
        Check.due("not by three", x.talks(47, 1, 121, 4), -9);
        Check.due("a row stays by NONE", Check.place(x, 4, 2), 2);
        x.talk(3, 99);
        talksDue(x, 47, 1, 90);
        talksDue(x, 47, 1, 91, 1);
        Check.due("nothing is done", x.smoke(1), 90);
        int[][] bad = {{100, 1, 1, 1}, {-1, 1, 1, 1}, {1, 4, 1, 1}, {1, -1, 1, 1}, {1, 1, 1000, 1}, {1, 1, -1, 1},
            {1, 1, 1, 6}, {1, 1, 1, -1}};
        for (int[] b : bad) {
            Check.due("talks BAD", x.talks(b[0], b[1], b[2], b[3]), -1);
        }
        ClubSmoke y = Check.club("p34 v1");
        for (int k = 0; k < 11; k++) {
            y.talk(0, 90);
        }
        Check.due("999 at most", y.talks(99, 1, 999, 0), 1);
    }

    private static void withoutMembers() {
        ClubSmoke x = new ClubSmoke();
        Check.due("says", x.says(0, 0), -1);
        Check.due("breathes", x.breathes(0, 0), -1);
        Check.due("means", x.means(0, 0), -1);
        Check.due("least", x.least(0, 0), -1);
        Check.due("hangs", x.hangs(0, 0), -1);
        Check.due("clear", x.clear(), -4);
        Check.due("window", x.window(0), -4);
        Check.due("window, BAD ahead", x.window(-1), -1);
        Check.due("talks", x.talks(0, 0, 0, 0), -1);
    }
}
