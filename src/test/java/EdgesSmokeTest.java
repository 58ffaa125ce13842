import java.io.IOException;

/** Boundaries of promises 22 to 29: what is said and breathed aside, what hangs. */
final class EdgesSmokeTest {
    /** Of each kind the most that it says and breathes, of 0 .. 99. */
    private static final int[] MOST_SAID = {49, 49, 90, 99, 48, 9}, MOST_BREATHED = {50, 50, 9, 0, 51, 90};

    private EdgesSmokeTest() {
    }

    public static void main(String[] args) throws ReflectiveOperationException, IOException {
        Edges.run(EdgesSmokeTest.class);
    }

    private static void memberRange(String call, Edges.Given given) {
        Edges.range(call + ", i", Edges::busy, 0, 5, given);
        Edges.range(call + ", i of one", Edges.club("p03m0"), 0, 0, given);
        Edges.refused(call + ", no members", Edges::shelves, x -> given.of(x, 0), Edges.BAD);
    }

    // ---- 22 says

    @Edges.Doc(promise = 22, says = "What a MEMBER SAYS of v (0 .. 99). BAD.")
    static void saysOfNoMemberOrMeaningIsBad() {
        memberRange("says(i, 9)", (x, i) -> x.says(i, 9));
        Edges.range("says(3, v), v", Edges::busy, 0, 99, (x, v) -> x.says(3, v));
    }

    @Edges.Doc(promise = 22, says = "What a MEMBER SAYS of v (0 .. 99).")
    static void saysOfEachMeaning() {
        ClubSmoke x = Check.club(Edges.SIX);
        long before = x.digest();
        for (int v : new int[] {0, 1, 2, 3, 4, 9, 10, 11, 19, 20, 89, 90, 98, 99}) {
            Check.due("member of " + v, x.says(0, v), v / 2);
            Check.due("bishop of " + v, x.says(1, v), v / 2);
            Check.due("young one of " + v, x.says(2, v), v / 10 * 10);
            Check.due("foreign one of " + v, x.says(3, v), v);
            Check.due("admiral of " + v, x.says(4, v), v < 2 ? 0 : v / 2 - 1);
            Check.due("vicar of " + v, x.says(5, v), v % 10);
        }
        Check.due("aside", x.digest(), before);
        Check.due("asked is not told", x.asked(), 0);
    }

    @Edges.Doc(promise = 22, says = "What a MEMBER SAYS of v (0 .. 99).")
    static void saysWithFortyDeeds() {
        Edges.answers("no deed", Edges::fullClub, x -> x.says(5, 99), 9);
        Edges.answers("no deed", Edges::fullClub, x -> x.breathes(5, 99), 90);
    }

    // ---- 23 breathes

    @Edges.Doc(promise = 23, says = "What it BREATHES. BAD.")
    static void breathesOfNoMemberOrMeaningIsBad() {
        memberRange("breathes(i, 9)", (x, i) -> x.breathes(i, 9));
        Edges.range("breathes(3, v), v", Edges::busy, 0, 99, (x, v) -> x.breathes(3, v));
    }

    @Edges.Doc(promise = 23, says = {"What it BREATHES.", "One BREATHES the rest."})
    static void breathesTheRest() {
        ClubSmoke x = Check.club(Edges.SIX);
        for (int v : new int[] {0, 1, 2, 3, 4, 9, 10, 11, 19, 20, 89, 90, 98, 99}) {
            Check.due("member of " + v, x.breathes(0, v), (v + 1) / 2);
            Check.due("bishop of " + v, x.breathes(1, v), (v + 1) / 2);
            Check.due("young one of " + v, x.breathes(2, v), v % 10);
            Check.due("foreign one of " + v, x.breathes(3, v), 0);
            Check.due("admiral of " + v, x.breathes(4, v), v < 2 ? v : (v + 3) / 2);
            Check.due("vicar of " + v, x.breathes(5, v), v / 10 * 10);
        }
    }

    // ---- 24 means

    @Edges.Doc(promise = 24, says = "by which it SAYS s (0 .. 99); the least by asked() (NONE). BAD.")
    static void meansOfNoMemberOrSayingIsBad() {
        memberRange("means(i, 4)", (x, i) -> x.means(i, 4));
        Edges.range("means(3, s), s", Edges::busy, 0, 99, (x, s) -> x.means(3, s));
    }

    @Edges.Doc(promise = 24, says = "How many meanings (0 .. 99) there are by which it SAYS s (0 .. 99); the least by asked() (NONE).")
    static void meansOfLeastAndMostSayings() {
        int[] ofNought = {2, 2, 10, 1, 4, 10};
        int[] ofMost = {2, 2, 10, 1, 2, 10};
        int[] leastOfMost = {98, 98, 90, 99, 98, 9};
        for (int i = 0; i < 6; i++) {
            ClubSmoke x = Check.club(Edges.SIX);
            int one = i;
            Edges.tellsAside("means(" + i + ", 0)", x, y -> y.means(one, 0), ofNought[i], 0);
            Edges.tellsAside("means of most", x, y -> y.means(one, MOST_SAID[one]), ofMost[i], leastOfMost[i]);
            if (MOST_SAID[i] < 99) {
                Edges.tellsAside("means of more", x, y -> y.means(one, MOST_SAID[one] + 1), 0, Edges.NONE);
                Edges.tellsAside("means(" + i + ", 99)", x, y -> y.means(one, 99), 0, Edges.NONE);
            }
        }
    }

    @Edges.Doc(promise = 24, says = "the least by asked() (NONE)")
    static void meansBetweenTens() {
        ClubSmoke x = Check.club(Edges.SIX);
        Edges.tellsAside("means(2, 9)", x, y -> y.means(2, 9), 0, Edges.NONE);
        Edges.tellsAside("means(2, 10)", x, y -> y.means(2, 10), 10, 10);
        Edges.tellsAside("means(2, 11)", x, y -> y.means(2, 11), 0, Edges.NONE);
        Edges.tellsAside("means(4, 1)", x, y -> y.means(4, 1), 2, 4);
    }

    // ---- 25 least

    @Edges.Doc(promise = 25, says = "The least meaning by which it BREATHES b (0 .. 99) or more. NONE. BAD.")
    static void leastOfNoMemberOrBreathIsBad() {
        memberRange("least(i, 0)", (x, i) -> x.least(i, 0));
        Edges.range("least(5, b), b", Edges::busy, 0, 99, (x, b) -> x.least(5, b));
    }

    @Edges.Doc(promise = 25, says = "The least meaning by which it BREATHES b (0 .. 99) or more. NONE.")
    static void leastOfNoneMostAndMoreBreath() {
        int[] ofMost = {99, 99, 9, 0, 99, 90};
        for (int i = 0; i < 6; i++) {
            ClubSmoke x = Check.club(Edges.SIX);
            Check.due("least(" + i + ", 0)", x.least(i, 0), 0);
            Check.due("least of most", x.least(i, MOST_BREATHED[i]), ofMost[i]);
            Check.due("least of more", x.least(i, MOST_BREATHED[i] + 1), Edges.NONE);
            Check.due("least(" + i + ", 99)", x.least(i, 99), Edges.NONE);
            Check.due("asked is not told", x.asked(), 0);
        }
    }

    @Edges.Doc(promise = 25, says = "or more")
    static void leastByMoreBreath() {
        ClubSmoke x = Check.club(Edges.SIX);
        Check.due("80 by a vicar", x.least(5, 80), 80);
        Check.due("81 by a vicar", x.least(5, 81), 90);
        Check.due("1 by a vicar", x.least(5, 1), 10);
        Check.due("11 by a vicar", x.least(5, 11), 20);
    }

    @Edges.Doc(promise = 25, says = "NONE.")
    static void leastOfNoneChangesNothing() {
        Edges.refused("least(3, 1)", Edges::busy, x -> x.least(3, 1), Edges.NONE);
    }

    // ---- 26 hangs

    private static ClubSmoke smoke(String signs, int n, int v) {
        ClubSmoke x = Check.club(signs);
        Edges.talks(x, n, 0, v);
        return x;
    }

    @Edges.Doc(promise = 26, says = "SMOKE of a CELL in n (0 .. 60) HOURS. BAD.")
    static void hangsOfNoCellOrHourIsBad() {
        Edges.range("hangs(c, 1) of five", Edges::busy, 0, 4, (x, c) -> x.hangs(c, 1));
        Edges.range("hangs(c, 1) of three", Edges.club("p03m0"), 0, 2, (x, c) -> x.hangs(c, 1));
        Edges.range("hangs(c, 1) of eight", Edges.club("p08m0"), 0, 7, (x, c) -> x.hangs(c, 1));
        Edges.range("hangs(1, n), n", Edges::busy, 0, 60, (x, n) -> x.hangs(1, n));
        Edges.refused("no cells", Edges::shelves, x -> x.hangs(0, 0), Edges.BAD);
    }

    @Edges.Doc(promise = 26, says = {"SMOKE of a CELL in n (0 .. 60) HOURS.", "less by the LEAK (0 at least)"})
    static void hangsOfMostSmoke() {
        int[] most = {999, 939, 459};
        int[] leaks = {0, 1, 9};
        for (int k = 0; k < leaks.length; k++) {
            ClubSmoke x = smoke("p" + leaks[k] + "3v2", 12, 99);
            Check.due("now", x.hangs(2, 0), 999);
            Check.due("in one", x.hangs(2, 1), 999 - leaks[k]);
            Check.due("in 60 by " + leaks[k], x.hangs(2, 60), most[k]);
            Check.due("no smoke", x.hangs(0, 60), 0);
            Check.due("nothing is done", x.count(2), 0);
        }
    }

    @Edges.Doc(promise = 26, says = "less by the LEAK (0 at least)")
    static void hangsNoLessThanNone() {
        int[][] due = {{59, 0}, {60, 0}, {61, 1}, {62, 2}};
        for (int[] d : due) {
            ClubSmoke x = smoke("p13m0", 1, 99);
            x.talk(0, 2 * d[0] - 100);
            Check.due("smoke", x.smoke(0), d[0]);
            Check.due("in 60 hours", x.hangs(0, 60), d[1]);
        }
        ClubSmoke y = smoke("p93m0", 1, 36);
        Check.due("18 in one", y.hangs(0, 1), 9);
        Check.due("18 in two", y.hangs(0, 2), 0);
        Check.due("18 in three", y.hangs(0, 3), 0);
    }

    // ---- 27 clear

    @Edges.Doc(promise = 27, says = "STATE: no MEMBERS.")
    static void clearWithoutMembersIsState() {
        Edges.refused("no members", Edges::shelves, x -> x.clear(), Edges.STATE);
    }

    @Edges.Doc(promise = 27, says = "In how many HOURS (0 .. 1000) all SMOKE has leaked.")
    static void clearOfNoneAndMost() {
        Check.due("no smoke", Check.club("p13m0").clear(), 0);
        Check.due("999 by 1", smoke("p13v2", 12, 99).clear(), 999);
        Check.due("990 by 1", smoke("p13v2", 11, 99).clear(), 990);
        Check.due("999 by 9", smoke("p98v7", 12, 99).clear(), 111);
        Check.due("999 by 7", smoke("p78v7", 12, 99).clear(), 143);
        Check.due("with forty deeds", smoke("p13v2", 40, 99).clear(), 999);
    }

    @Edges.Doc(promise = 27, says = "all SMOKE has leaked")
    static void clearJustWhenTheFullestIs() {
        int[][] due = {{1, 1}, {8, 1}, {9, 1}, {10, 2}, {17, 2}, {18, 2}, {19, 3}};
        for (int[] d : due) {
            ClubSmoke x = Check.club("p98 m3 m7 m0");
            x.talk(1, 2 * d[0]);
            x.talk(0, 2);
            Check.due("clear of " + d[0], x.clear(), d[1]);
            Edges.hours(x, d[1] - 1);
            Check.holds("not yet", x.count(4) > 0);
            x.hour();
            Check.due("clear then", x.count(4), 0);
            Check.due("clear now", x.clear(), 0);
        }
    }

    @Edges.Doc(promise = 27, says = "NONE: not at all.")
    static void clearWithoutALeak() {
        Check.due("no smoke, no leak", Check.club("p03m0").clear(), 0);
        Edges.refused("smoke, no leak", () -> smoke("p03m0", 1, 1), x -> x.clear(), Edges.NONE);
        ClubSmoke x = smoke("p03m0", 1, 99);
        x.thunder();
        Check.due("come down", x.clear(), 0);
    }

    // ---- 28 window

    @Edges.Doc(promise = 28, says = {"so that w (0 .. 7992) SMOKE or less is left", "BAD; STATE: no MEMBERS."})
    static void windowOfNoSmokeThatCanBeIsBad() {
        Edges.range("window(w)", Edges::busy, 0, 7992, (x, w) -> x.window(w));
    }

    @Edges.Doc(promise = 28, says = "STATE: no MEMBERS.")
    static void windowWithoutMembersIsState() {
        for (int w : new int[] {0, 1, 7992}) {
            Edges.refused("window(" + w + ")", Edges::shelves, x -> x.window(w), Edges.STATE);
        }
    }

    private static void windowDue(ClubSmoke x, int w, int few, int which) {
        Edges.tellsAside("window(" + w + ")", x, y -> y.window(w), few, which);
    }

    @Edges.Doc(promise = 28, says = "The fewest CELLS to be opened now so that w (0 .. 7992) SMOKE or less is left")
    static void windowAtJustSoMuchSmoke() {
        windowDue(Check.club("p03m0"), 0, 0, 0);
        ClubSmoke x = Check.club("p03 m0 m1 m2");
        x.talk(0, 20);
        x.talk(1, 40);
        x.talk(2, 60);
        windowDue(x, 61, 0, 0);
        windowDue(x, 60, 0, 0);
        windowDue(x, 59, 1, 1);
        windowDue(x, 50, 1, 1);
        windowDue(x, 49, 1, 2);
        windowDue(x, 40, 1, 2);
        windowDue(x, 39, 1, 4);
        windowDue(x, 30, 1, 4);
        windowDue(x, 29, 2, 5);
        windowDue(x, 20, 2, 5);
        windowDue(x, 19, 2, 6);
        windowDue(x, 10, 2, 6);
        windowDue(x, 9, 3, 7);
        windowDue(x, 0, 3, 7);
        Check.due("nothing is done", x.count(4), 60);
    }

    @Edges.Doc(promise = 28, says = "which by asked() (bits; of like few the least number)")
    static void windowOfAllEightCells() {
        ClubSmoke x = Check.club("p08 m0 b2 b5 m7");
        x.talk(0, 2);
        x.talk(1, 20);
        x.talk(2, 20);
        x.talk(3, 2);
        windowDue(x, 0, 8, 255);
        windowDue(x, 1, 7, 127);
        windowDue(x, 7992, 0, 0);
    }

    @Edges.Doc(promise = 28, says = "w (0 .. 7992) SMOKE or less is left")
    static void windowAtMostSmokeOfACell() {
        ClubSmoke x = smoke("p08v7", 12, 99);
        windowDue(x, 999, 0, 0);
        windowDue(x, 998, 1, 128);
        windowDue(x, 0, 1, 128);
    }

    // ---- 29 talks

    private static ClubSmoke four() {
        ClubSmoke x = Check.club("p34 f1 m1 b0 v1");
        Check.fill(x, 4, Edges.many(40, 6));
        x.row(3, 0);
        x.talk(3, 50);
        return x;
    }

    private static void lineDue(ClubSmoke x, int v, int c, int w, int... line) {
        String call = "talks(" + v + ", " + c + ", " + w + ", 4)";
        Check.due(call, x.talks(v, c, w, 4), line.length);
        for (int k = 0; k < line.length; k++) {
            Check.due(call + " place " + k, Check.place(x, 4, k), line[k]);
        }
        Check.finds(call + " no more places", x, x.at(4, line.length), Edges.BEYOND);
    }

    @Edges.Doc(promise = 29, says = {"v (0 .. 99) being MEANT by each", "NONE: not by three. BAD."})
    static void talksOfNoMeaningIsBad() {
        Edges.range("talks(v, 1, 20, 4), v", EdgesSmokeTest::four, 0, 99, (x, v) -> x.talks(v, 1, 20, 4));
    }

    @Edges.Doc(promise = 29, says = "hangs in a CELL")
    static void talksOfNoCellIsBad() {
        Edges.range("talks(9, c, 0, 4), c", EdgesSmokeTest::four, 0, 3, (x, c) -> x.talks(9, c, 0, 4));
        Edges.range("talks(9, c, 0, 4), c of eight", Edges.club("p08m0"), 0, 7, (x, c) -> x.talks(9, c, 0, 4));
        Edges.refused("no cells", Edges::shelves, x -> x.talks(9, 0, 0, 4), Edges.BAD);
    }

    @Edges.Doc(promise = 29, says = "by which w (0 .. 999) SMOKE or more hangs in a CELL")
    static void talksOfNoSmokeThatCanBeIsBad() {
        Edges.range("talks(9, 1, w, 4), w", EdgesSmokeTest::four, 0, 999, (x, w) -> x.talks(9, 1, w, 4));
    }

    @Edges.Doc(promise = 29, says = "comes to a ROW (anew)")
    static void talksToNoRowIsBad() {
        Edges.range("talks(9, 1, 0, r), r", EdgesSmokeTest::four, 0, 5, (x, r) -> x.talks(9, 1, 0, r));
    }

    @Edges.Doc(promise = 29, says = {"The fewest sayings (0 .. 3; by any MEMBERS, v (0 .. 99) being MEANT by each) by which", "w (0 .. 999) SMOKE or more hangs"})
    static void talksAtJustSoMuchSmoke() {
        lineDue(four(), 47, 1, 0);
        lineDue(four(), 47, 1, 49);
        lineDue(four(), 47, 1, 50);
        lineDue(four(), 47, 1, 51, 1);
        lineDue(four(), 47, 1, 74, 1);
        lineDue(four(), 47, 1, 75, 3);
        lineDue(four(), 47, 1, 90, 3);
        lineDue(four(), 47, 1, 91, 1, 1);
        lineDue(four(), 47, 1, 130, 3, 3);
        lineDue(four(), 47, 1, 131, 1, 1, 3);
        lineDue(four(), 47, 1, 170, 3, 3, 3);
        Edges.refused("not by three", EdgesSmokeTest::four, x -> x.talks(47, 1, 171, 4), Edges.NONE);
        Edges.refused("not by three", EdgesSmokeTest::four, x -> x.talks(47, 1, 999, 4), Edges.NONE);
        Edges.refused("not to a missing row", EdgesSmokeTest::four, x -> x.talks(47, 1, 171, 0), Edges.NONE);
    }

    @Edges.Doc(promise = 29, says = "the first such row of MEMBERS (lesser ones ahead)")
    static void talksByTheFirstMembers() {
        ClubSmoke x = Check.club("p33 v0 m0 f0 v0 m0 v0");
        lineDue(x, 40, 0, 1, 0);
        lineDue(x, 40, 0, 41, 0, 0);
        lineDue(x, 40, 0, 81, 0, 0, 0);
        ClubSmoke y = Check.club("p33 f0 m0 v0");
        lineDue(y, 40, 0, 60, 1, 2);
        lineDue(y, 40, 0, 100, 1, 2, 2);
        lineDue(y, 40, 0, 81, 1, 2, 2);
    }

    @Edges.Doc(promise = 29, says = "of a BISHOP (ADMIRAL, too) in rings")
    static void talksByRingsAroundTheEnds() {
        ClubSmoke x = Check.club("p03 b0 a2");
        // Of 99 the bishop breathes 25, 12, 13 to cells 0, 1, 2, the admiral 25, 13, 13 to 2, 0, 1.
        lineDue(x, 99, 0, 25, 0);
        lineDue(x, 99, 0, 26, 0, 0);
        lineDue(x, 99, 1, 12, 0);
        lineDue(x, 99, 1, 13, 1);
        lineDue(x, 99, 1, 26, 1, 1);
        lineDue(x, 99, 2, 25, 1);
        lineDue(x, 99, 2, 38, 0, 1);
        Check.due("not by three", x.talks(99, 2, 76, 4), Edges.NONE);
    }

    @Edges.Doc(promise = 29, says = {"comes to a ROW (anew)", "ROWS 0 .. 5 are rows of 0 to 40 ints"})
    static void talksToAMissingAnEmptyAndAFullRow() {
        for (int r : new int[] {0, 3, 4}) {
            ClubSmoke x = four();
            Check.due("talks", x.talks(47, 1, 170, r), 3);
            for (int k = 0; k < 3; k++) {
                Check.due("place " + k, Check.place(x, r, k), 3);
            }
            Check.finds("place 3", x, x.at(r, 3), Edges.BEYOND);
            Check.due("rows", x.count(10), r == 0 ? 3 : 2);
            ClubSmoke y = four();
            Check.due("none", y.talks(47, 1, 50, r), 0);
            Check.finds("place 0", y, y.at(r, 0), Edges.BEYOND);
            Check.due("nothing is done", y.smoke(1), 50);
        }
    }

    @Edges.Doc(promise = 29, says = {"w (0 .. 999) SMOKE or more hangs", "SMOKE of a CELL 999 at most: more is lost"})
    static void talksAtMostSmoke() {
        ClubSmoke x = smoke("p03v0", 11, 99);
        Check.due("990", x.talks(99, 0, 990, 0), 0);
        Check.due("991", x.talks(99, 0, 991, 0), 1);
        Check.due("999", x.talks(99, 0, 999, 0), 1);
        x.talk(0, 99);
        Check.due("999 hang", x.talks(99, 0, 999, 0), 0);
        ClubSmoke full = smoke("p03v0", 40, 0);
        Check.due("with forty deeds", full.talks(99, 0, 270, 0), 3);
        Check.due("with forty deeds", full.talks(99, 0, 271, 0), Edges.NONE);
    }

    @Edges.Doc(promise = 29, says = "v (0 .. 99) being MEANT by each")
    static void talksOfNoBreath() {
        ClubSmoke x = four();
        Check.due("nothing meant", x.talks(0, 1, 51, 4), Edges.NONE);
        Check.due("nothing meant, so much hangs", x.talks(0, 1, 50, 4), 0);
        Check.due("none breathed there", x.talks(99, 2, 1, 4), Edges.NONE);
    }
}
