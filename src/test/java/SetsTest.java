/** Promises 30 to 36: by whom, and by notes. */
final class SetsTest {
    private static final String SIX = "p35 m0b1y1f2a4v1";

    private SetsTest() {
    }

    public static void main(String[] args) {
        setsSureAsk();
        setsRefused();
        who();
        test();
        notesRefused();
        leaks();
        Check.end();
    }

    private static void due(ClubSmoke x, int v, int b, int many, int first) {
        Check.due("sets(" + v + ", " + b + ")", x.sets(v, b), 1);
        Check.due("first", x.asked(), first);
        Check.due("upper", x.upper(), many);
        Check.due("lower", x.lower(), 1);
    }

    private static void sureDue(ClubSmoke x, int v, int b, int each, int none) {
        Check.due("sure(" + v + ", " + b + ")", x.sure(v, b), each);
        Check.due("in none", x.asked(), none);
    }

    private static void askDue(ClubSmoke x, int v, int b, int whom, int greater) {
        Check.due("ask(" + v + ", " + b + ")", x.ask(v, b), whom);
        Check.due("greater", x.asked(), greater);
    }

    /** Of 47 these breathe 24, 24, 7, 0, 25, 40. */
    private static void setsSureAsk() {
        ClubSmoke x = Check.club(SIX);
        x.odds(0, 3, 5);
        due(x, 47, 0, 2, 0);
        sureDue(x, 47, 0, 0, 1 + 2 + 4 + 16 + 32);
        askDue(x, 47, 0, 3, 1);
        due(x, 47, 31, 4, 1 + 4);
        sureDue(x, 47, 31, 4, 16 + 32);
        askDue(x, 47, 31, 0, 2);
        due(x, 47, 120, 2, 63 - 8);
        sureDue(x, 47, 120, 63 - 8, 0);
        askDue(x, 47, 120, 3, 1);
        due(x, 47, 25, 2, 16);
        due(x, 47, 594, 0, -9);
        Check.finds("sure NOUGHT", x, x.sure(47, 594), 4);
        Check.finds("ask NOUGHT", x, x.ask(47, 1), 4);
        Check.due("asked stays", x.asked(), -9);
        ClubSmoke y = Check.club("p03 m0 m1 m2");
        due(y, 10, 5, 3, 1);
        sureDue(y, 10, 5, 0, 0);
        askDue(y, 10, 5, 0, 2);
        due(y, 10, 10, 3, 3);
        due(y, 0, 0, 8, 0);
        ClubSmoke z = Check.club("p03 v0 v0 v0 v0 v0 v0");
        due(z, 99, 540, 1, 63);
        askDue(z, 99, 540, 0, 1);
        Check.due("SMOKE is not asked", z.count(4), 0);
        ClubSmoke a = Check.club(SIX);
        sureDue(a, 47, 31, 4, 16 + 32);
        sureDue(a, 10, 10, 0, 16);
        ClubSmoke b = Check.club(SIX);
        askDue(b, 47, 31, 0, 2);
        askDue(b, 99, 99, 3, 1);
    }

    private static void setsRefused() {
        ClubSmoke x = Check.club(SIX);
        ClubSmoke none = new ClubSmoke();
        int[][] bad = {{100, 0}, {-1, 0}, {0, 595}, {0, -1}};
        for (int[] b : bad) {
            Check.due("sets", x.sets(b[0], b[1]), -1);
            Check.due("sure", x.sure(b[0], b[1]), -1);
            Check.due("ask", x.ask(b[0], b[1]), -1);
            Check.due("sets, BAD ahead", none.sets(b[0], b[1]), -1);
            Check.due("sure, BAD ahead", none.sure(b[0], b[1]), -1);
            Check.due("ask, BAD ahead", none.ask(b[0], b[1]), -1);
        }
        Check.due("sets", none.sets(0, 0), -4);
        Check.due("sure, STATE ahead of NOUGHT", none.sure(0, 1), -4);
        Check.due("ask, STATE ahead of NOUGHT", none.ask(0, 1), -4);
        Check.due("no finding", none.finding(), 0);
    }

    private static void who() {
        ClubSmoke x = Check.club("p35 v1 a4 f2 y1 b1 m0");
        Check.fill(x, 0, 47, 23);
        Check.due("who", x.who(0), 16 + 32);
        Check.due("kinds", x.kinds(0), 1 + 2);
        Check.fill(x, 0, 7, 7, 47, 7);
        Check.due("who", x.who(0), 1);
        Check.due("kinds", x.kinds(0), 32);
        Check.fill(x, 0, 7, 7);
        Check.due("who", x.who(0), 1 + 4);
        Check.due("kinds", x.kinds(0), 8 + 32);
        Check.fill(x, 0, 7, 7, 47, 40);
        Check.due("who", x.who(0), 0);
        Check.due("kinds", x.kinds(0), 0);
        Check.fill(x, 0, 0, 0, 0, 0, 0, 0, 0, 0, 0, 0, 0, 0, 0, 0, 99, 48);
        Check.due("eight", x.who(0), 2);
        Check.due("eight", x.kinds(0), 16);
        x.row(0, 0);
        Check.due("none", x.who(0), 63);
        ClubSmoke none = new ClubSmoke();
        none.row(0, 0);
        Check.due("no members", none.who(0), 0);
        Check.due("kinds all the same", none.kinds(0), 63);
    }

    private static void testDue(int first, int part, int... notes) {
        ClubSmoke x = new ClubSmoke();
        Check.fill(x, 5, notes);
        Check.due("test(5)", x.test(5), first);
        Check.due("part", x.asked(), part);
    }

    private static void test() {
        testDue(2, 2);
        testDue(0, 2, 47, 23);
        testDue(0, 1, 47, 40);
        testDue(1, 1, 0, 0, 10, 10);
        testDue(10, 1, 7, 7);
        testDue(2, 2, 0, 0, 1, 0);
        testDue(0, 2, 0, 0, 1, 0, 99, 49);
    }

    private static void notesRefused() {
        ClubSmoke x = Check.club(SIX);
        for (int r = -1; r <= 6; r += 7) {
            Check.due("who", x.who(r), -1);
            Check.due("kinds", x.kinds(r), -1);
            Check.due("test", x.test(r), -1);
        }
        allFind(x, 0, 1);
        x.row(0, 17);
        allFind(x, 0, 5);
        x.row(0, 18);
        allFind(x, 0, 5);
        Check.fill(x, 0, 100);
        allFind(x, 0, 5);
        Check.fill(x, 0, 0, 100);
        allFind(x, 0, 3);
        Check.fill(x, 0, 100, 0);
        allFind(x, 0, 3);
        Check.fill(x, 0, 5, 9, -1, 0);
        allFind(x, 0, 3);
        Check.fill(x, 0, 5, 77);
        x.lay(0, 0, 5);
        Check.due("NONE", x.test(0), -9);
        Check.due("asked stays by NONE", x.asked(), 5);
    }

    private static void allFind(ClubSmoke x, int r, int finding) {
        Check.finds("who", x, x.who(r), finding);
        Check.finds("kinds", x, x.kinds(r), finding);
        Check.finds("test", x, x.test(r), finding);
    }

    private static void leaksDue(int bits, int... hours) {
        ClubSmoke x = new ClubSmoke();
        Check.fill(x, 3, hours);
        Check.due("leaks(3)", x.leaks(3), bits);
    }

    private static void leaks() {
        leaksDue(1023, 0);
        leaksDue(1023, 999);
        leaksDue(1023, 0, 0, 0);
        leaksDue(1, 9, 9);
        leaksDue(512, 999, 990, 981);
        leaksDue(0, 999, 989);
        leaksDue(1023 - 7, 3, 0);
        leaksDue(4, 3, 1, 0);
        leaksDue(0, 3, 1, 1);
        leaksDue(0, 3, 4);
        leaksDue(0, 0, 1);
        int[] forty = new int[40];
        for (int i = 0; i < 40; i++) {
            forty[i] = 300 - 7 * i;
        }
        leaksDue(128, forty);
        ClubSmoke x = new ClubSmoke();
        Check.due("leaks(6)", x.leaks(6), -1);
        Check.due("leaks(-1)", x.leaks(-1), -1);
        Check.finds("leaks(0)", x, x.leaks(0), 1);
        x.row(0, 0);
        Check.finds("empty", x, x.leaks(0), 5);
        Check.fill(x, 0, 5, 1000);
        Check.finds("1000", x, x.leaks(0), 3);
        Check.fill(x, 0, -1, 5);
        Check.finds("-1", x, x.leaks(0), 3);
    }
}
