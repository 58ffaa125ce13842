import java.io.IOException;

/** Boundaries of promises 30 to 36: by whom, and by notes. */
final class EdgesSetsTest {
    private static final int MIN = Edges.MIN, MAX = Edges.MAX;
    private static final String VICARS = "p33 v0 v1 v2 v0 v1 v2";

    private EdgesSetsTest() {
    }

    public static void main(String[] args) throws ReflectiveOperationException, IOException {
        Edges.run(EdgesSetsTest.class);
    }

    // ---- 30 sets

    private static void setsDue(ClubSmoke x, int v, int b, int many, int first) {
        String call = "sets(" + v + ", " + b + ")";
        Edges.tellsBy(call, x, y -> y.sets(v, b), many, 1);
        Check.due(call + ", asked()", x.asked(), first);
    }

    @Edges.Doc(promise = 30, says = {"sets of MEMBERS BREATHE b (0 .. 594) together", "BAD; STATE: no MEMBERS."})
    static void setsOfNoNumberIsBad() {
        Edges.range("sets(v, 0), v", Edges::busy, 0, 99, (x, v) -> x.sets(v, 0));
        Edges.range("sets(47, b), b", Edges::busy, 0, 594, (x, b) -> x.sets(47, b));
    }

    @Edges.Doc(promise = 30, says = "STATE: no MEMBERS.")
    static void setsWithoutMembersIsState() {
        Edges.refused("sets(0, 0)", Edges::shelves, x -> x.sets(0, 0), Edges.STATE);
        Edges.refused("sets(99, 594)", Edges::shelves, x -> x.sets(99, 594), Edges.STATE);
    }

    @Edges.Doc(promise = 30, says = "told by upper() (lower() is 1); the first by asked() (bits; NONE): 1.")
    static void setsOfNoneAllAndMore() {
        ClubSmoke x = Check.club(VICARS);
        x.talk(0, 50);
        x.odds(50, 1, 5);
        setsDue(x, 99, 0, 1, 0);
        setsDue(x, 99, 1, 0, Edges.NONE);
        setsDue(x, 99, 89, 0, Edges.NONE);
        setsDue(x, 99, 90, 6, 1);
        setsDue(x, 99, 270, 20, 7);
        setsDue(x, 99, 450, 6, 31);
        setsDue(x, 99, 539, 0, Edges.NONE);
        setsDue(x, 99, 540, 1, 63);
        setsDue(x, 99, 541, 0, Edges.NONE);
        setsDue(x, 99, 594, 0, Edges.NONE);
        setsDue(x, 0, 0, 64, 0);
        setsDue(x, 0, 594, 0, Edges.NONE);
        Check.due("nothing is done", x.count(4), 50);
    }

    @Edges.Doc(promise = 30, says = "in lowest terms, the lower number above 0 (0 by 1)")
    static void setsBehindOddsHaveLowerOne() {
        ClubSmoke x = Check.club(VICARS);
        x.talk(0, 50);
        Edges.tellsBy("odds", x, y -> y.odds(50, 1, 5), 5, 12);
        setsDue(x, 99, 594, 0, Edges.NONE);
        Edges.tellsBy("odds", x, y -> y.odds(50, 1, 5), 5, 12);
        setsDue(x, 99, 270, 20, 7);
    }

    @Edges.Doc(promise = 30, says = "How many sets of MEMBERS BREATHE b")
    static void setsOfOneMember() {
        ClubSmoke x = Check.club("p03 m0");
        setsDue(x, 99, 0, 1, 0);
        setsDue(x, 99, 50, 1, 1);
        setsDue(x, 99, 49, 0, Edges.NONE);
        setsDue(x, 99, 51, 0, Edges.NONE);
        setsDue(x, 0, 0, 2, 0);
    }

    // ---- 31 sure

    private static void sureDue(ClubSmoke x, int v, int b, int each, int none) {
        Edges.tellsAside("sure(" + v + ", " + b + ")", x, y -> y.sure(v, b), each, none);
    }

    @Edges.Doc(promise = 31, says = "BAD; STATE; NOUGHT: there is no set. (In this order.)")
    static void sureOfNoNumberIsBad() {
        Edges.range("sure(v, 0), v", Edges::busy, 0, 99, (x, v) -> x.sure(v, 0));
        Edges.range("sure(47, b), b", Edges::busy, 0, 594, (x, b) -> x.sure(47, b));
    }

    @Edges.Doc(promise = 31, says = "BAD; STATE; NOUGHT: there is no set. (In this order.)")
    static void sureWithoutMembersIsState() {
        Edges.refused("sure(0, 0)", Edges::shelves, x -> x.sure(0, 0), Edges.STATE);
    }

    @Edges.Doc(promise = 31, says = "NOUGHT: there is no set.")
    static void sureWithoutASetIsNought() {
        for (int b : new int[] {1, 541, 594}) {
            Edges.finds("sure(99, " + b + ")", Edges.club(VICARS), x -> x.sure(99, b), Edges.NOUGHT);
        }
        Edges.finds("sure(0, 1)", Edges::busy, x -> x.sure(0, 1), Edges.NOUGHT);
    }

    @Edges.Doc(promise = 31, says = "MEMBERS (bits) that are in each such set; those in none by asked().")
    static void sureOfNoneAndAll() {
        ClubSmoke x = Check.club(VICARS);
        sureDue(x, 99, 0, 0, 63);
        sureDue(x, 99, 90, 0, 0);
        sureDue(x, 99, 540, 63, 0);
        sureDue(x, 0, 0, 0, 0);
        ClubSmoke one = Check.club("p03 m0");
        sureDue(one, 99, 50, 1, 0);
        sureDue(one, 99, 0, 0, 1);
        ClubSmoke six = Check.club(Edges.SIX);
        // Of 47 these breathe 24, 24, 7, 0, 25, 40.
        sureDue(six, 47, 120, 63 - 8, 0);
        sureDue(six, 47, 113, 63 - 8 - 4, 4);
        sureDue(six, 47, 80, 1 + 2 + 4 + 16, 32);
    }

    // ---- 32 ask

    private static void askDue(ClubSmoke x, int v, int b, int whom, int greater) {
        Edges.tellsAside("ask(" + v + ", " + b + ")", x, y -> y.ask(v, b), whom, greater);
    }

    @Edges.Doc(promise = 32, says = "BAD; STATE; NOUGHT. (In this order.)")
    static void askOfNoNumberIsBad() {
        Edges.range("ask(v, 0), v", Edges::busy, 0, 99, (x, v) -> x.ask(v, 0));
        Edges.range("ask(47, b), b", Edges::busy, 0, 594, (x, b) -> x.ask(47, b));
    }

    @Edges.Doc(promise = 32, says = "BAD; STATE; NOUGHT. (In this order.)")
    static void askWithoutMembersIsState() {
        Edges.refused("ask(0, 0)", Edges::shelves, x -> x.ask(0, 0), Edges.STATE);
    }

    @Edges.Doc(promise = 32, says = "BAD; STATE; NOUGHT. (In this order.)")
    static void askWithoutASetIsNought() {
        for (int b : new int[] {1, 541, 594}) {
            Edges.finds("ask(99, " + b + ")", Edges.club(VICARS), x -> x.ask(99, b), Edges.NOUGHT);
        }
        Edges.finds("ask(0, 1)", Edges::busy, x -> x.ask(0, 1), Edges.NOUGHT);
    }

    @Edges.Doc(promise = 32, says = {"The MEMBER (the first) of whom it is best to know whether it is in it",
        "the greater number of sets, with it or without, is least; that by asked()"})
    static void askTheFirstOfLikeOnes() {
        ClubSmoke x = Check.club(VICARS);
        askDue(x, 99, 0, 0, 1);
        askDue(x, 99, 90, 0, 5);
        askDue(x, 99, 270, 0, 10);
        askDue(x, 99, 540, 0, 1);
        askDue(x, 0, 0, 0, 32);
        ClubSmoke one = Check.club("p03 m0");
        askDue(one, 99, 50, 0, 1);
        askDue(one, 0, 0, 0, 1);
        ClubSmoke last = Check.club("p03 v0 v0 v0 v0 v0 f0");
        askDue(last, 99, 450, 5, 1);
        askDue(last, 99, 0, 5, 1);
    }

    // ---- 33 to 35: notes

    private static void eachOfNotes(String what, Edges.State state, int r, int finding) {
        Edges.finds("who, " + what, state, x -> x.who(r), finding);
        Edges.finds("kinds, " + what, state, x -> x.kinds(r), finding);
        Edges.finds("test, " + what, state, x -> x.test(r), finding);
    }

    private static Edges.State noted(int... notes) {
        return () -> {
            ClubSmoke x = Edges.busy();
            Check.fill(x, 5, notes);
            return x;
        };
    }

    @Edges.Doc(promise = 33, says = "BAD; NOTHING; SIZE; UNLIKE.")
    static void whoOfNoRowIsBad() {
        Edges.range("who(r)", Edges::busy, 0, 5, (x, r) -> x.who(r));
    }

    @Edges.Doc(promise = 34, says = "BAD; NOTHING; SIZE; UNLIKE.")
    static void kindsOfNoRowIsBad() {
        Edges.range("kinds(r)", Edges::busy, 0, 5, (x, r) -> x.kinds(r));
    }

    @Edges.Doc(promise = 35, says = "BAD; NOTHING; SIZE; UNLIKE.")
    static void testOfNoRowIsBad() {
        Edges.range("test(r)", Edges::busy, 0, 5, (x, r) -> x.test(r));
    }

    @Edges.Doc(promise = 33, says = {"BAD; NOTHING; SIZE; UNLIKE.", "NOTHING (a ROW, a TEXT, a kept CLUB that is missing)"})
    static void notesOfAMissingRowFindNothing() {
        for (int r : new int[] {0, 4, 5}) {
            eachOfNotes("missing", Edges::busy, r, Edges.NOTHING);
            eachOfNotes("missing, no members", Edges::shelves, r, Edges.NOTHING);
        }
    }

    @Edges.Doc(promise = 33, says = {"a ROW of pairs, 0 to 8", "SIZE (fewer than none; too many, not as many as due)"})
    static void notesAreNoughtToEightPairs() {
        for (int n : new int[] {1, 3, 15, 17, 18, 39, 40}) {
            eachOfNotes(n + " places", noted(new int[n]), 5, Edges.SIZE);
        }
        for (int n : new int[] {0, 2, 14, 16}) {
            ClubSmoke x = noted(new int[n]).make();
            Check.due("who of " + n, x.who(5), 63);
            Check.due("kinds of " + n, x.kinds(5), 63);
            Edges.tellsAside("test of " + n, x, y -> y.test(5), 2, 2);
        }
    }

    @Edges.Doc(promise = 33, says = {"what was MEANT 0 .. 99, what was SAID 0 .. 99: NOTHING; SIZE; UNLIKE; behind BAD",
        "UNLIKE (a MEMBER of another KIND; a number that is none)"})
    static void notesOfNoNumberAreUnlike() {
        for (int v : new int[] {-1, 100, MIN, MAX}) {
            eachOfNotes(v + " meant", noted(v, 0), 5, Edges.UNLIKE);
            eachOfNotes(v + " said", noted(0, v), 5, Edges.UNLIKE);
            eachOfNotes(v + " meant at last", noted(0, 9, 0, 9, 0, 9, 0, 9, 0, 9, 0, 9, 0, 9, v, 0), 5, Edges.UNLIKE);
            eachOfNotes(v + " said at last", noted(0, 9, 0, 9, 0, 9, 0, 9, 0, 9, 0, 9, 0, 9, 0, v), 5, Edges.UNLIKE);
            eachOfNotes(v + " of empty club", Edges.row(5, 0, v), 5, Edges.UNLIKE);
        }
    }

    @Edges.Doc(promise = 33, says = "Which MEMBERS (bits) can have SAID all this.")
    static void whoOfLeastAndGreatestNotes() {
        int[][] due = {{0, 0, 63}, {99, 49, 3}, {99, 90, 4}, {99, 99, 8}, {99, 48, 16}, {99, 9, 32}, {99, 0, 0}, {0, 99, 0}};
        for (int[] d : due) {
            Check.due("who of " + d[0] + ", " + d[1], noted(d[0], d[1]).make().who(5), d[2]);
        }
        Check.due("who, nothing noted", Edges.busy().who(2), 63);
        ClubSmoke one = Check.club("p03 v2");
        one.row(0, 0);
        Check.due("who, nothing noted, one member", one.who(0), 1);
        Check.due("who, nothing noted, no members", Edges.shelves().who(2), 0);
        Check.due("who, notes, no members", Edges.shelves().who(1), 0);
    }

    @Edges.Doc(promise = 34, says = "Of which KINDS (bits) one is who did.")
    static void kindsOfLeastAndGreatestNotes() {
        int[][] due = {{0, 0, 63}, {99, 49, 3}, {99, 90, 4}, {99, 99, 8}, {99, 48, 16}, {99, 9, 32}, {99, 0, 0}, {0, 99, 0}};
        for (int[] d : due) {
            Check.due("kinds of " + d[0] + ", " + d[1], noted(d[0], d[1]).make().kinds(5), d[2]);
            Check.due("kinds without members", Edges.row(0, d[0], d[1]).make().kinds(0), d[2]);
        }
        Check.due("kinds, nothing noted", Edges.shelves().kinds(2), 63);
    }

    @Edges.Doc(promise = 34, says = "a ROW of pairs, 0 to 8")
    static void lastOfEightPairsIsRead() {
        int[] eight = new int[16];
        eight[14] = 99;
        int[] said = {49, 90, 99, 48, 9};
        int[] fit = {3, 4, 8, 16, 32};
        for (int k = 0; k < said.length; k++) {
            eight[15] = said[k];
            Check.due("kinds of eight", noted(eight).make().kinds(5), fit[k]);
            Check.due("who of eight", noted(eight).make().who(5), fit[k]);
        }
    }

    @Edges.Doc(promise = 35, says = {"The meaning (the first) by which what is SAID tells most of these KINDS apart",
        "the greatest part of those that SAY alike is least; that part by asked()"})
    static void testOfAllFewAndOneKind() {
        int[][] due = {{0, 0, 2, 2}, {47, 23, 0, 2}, {47, 40, 0, 1}, {47, 47, 0, 1}, {47, 22, 0, 1}, {47, 7, 0, 1}, {1, 1, 10, 1},
            {1, 0, 2, 2}};
        for (int[] d : due) {
            ClubSmoke x = Edges.row(0, d[0], d[1]).make();
            Edges.tellsAside("test of " + d[0] + ", " + d[1], x, y -> y.test(0), d[2], d[3]);
        }
    }

    @Edges.Doc(promise = 35, says = "NONE: there is no KIND.")
    static void testOfNoKindIsNone() {
        Edges.refused("99 as 0", noted(99, 0), x -> x.test(5), Edges.NONE);
        Edges.refused("0 as 99", noted(0, 99), x -> x.test(5), Edges.NONE);
        Edges.refused("by two pairs", noted(99, 99, 99, 9), x -> x.test(5), Edges.NONE);
    }

    // ---- 36 leaks

    private static void leaksDue(int bits, int... hours) {
        Check.due("leaks of " + hours.length, Edges.row(3, hours).make().leaks(3), bits);
    }

    @Edges.Doc(promise = 36, says = "BAD; NOTHING; SIZE: an empty ROW; UNLIKE: not 0 .. 999. (In this order.)")
    static void leaksOfNoRowIsBad() {
        Edges.range("leaks(r)", Edges::busy, 0, 5, (x, r) -> x.leaks(r));
    }

    @Edges.Doc(promise = 36, says = "BAD; NOTHING; SIZE: an empty ROW")
    static void leaksOfAMissingRowFindsNothing() {
        for (int r : new int[] {0, 4, 5}) {
            Edges.finds("leaks(" + r + ")", Edges::busy, x -> x.leaks(r), Edges.NOTHING);
        }
    }

    @Edges.Doc(promise = 36, says = "SIZE: an empty ROW")
    static void leaksOfAnEmptyRowIsSize() {
        Edges.finds("leaks(2)", Edges::busy, x -> x.leaks(2), Edges.SIZE);
    }

    @Edges.Doc(promise = 36, says = "UNLIKE: not 0 .. 999.")
    static void leaksOfNoSmokeThatCanBeIsUnlike() {
        for (int v : new int[] {-1, 1000, MIN, MAX}) {
            Edges.finds(v + " alone", noted(v), x -> x.leaks(5), Edges.UNLIKE);
            Edges.finds(v + " first", noted(v, 0), x -> x.leaks(5), Edges.UNLIKE);
            int[] forty = new int[40];
            forty[39] = v;
            Edges.finds(v + " the 40th", noted(forty), x -> x.leaks(5), Edges.UNLIKE);
        }
        leaksDue(1023, 0);
        leaksDue(1023, 999);
    }

    @Edges.Doc(promise = 36, says = "By which LEAKS (bits 0 .. 9) a ROW (1 to 40 ints: SMOKE of a CELL, HOUR by HOUR) would be so.")
    static void leaksOfOneAndFortyInts() {
        leaksDue(1023, 7);
        leaksDue(1023, Edges.many(40, 0));
        leaksDue(1, Edges.many(40, 999));
        int[] by = new int[40];
        for (int leak = 0; leak <= 9; leak++) {
            for (int i = 0; i < 40; i++) {
                by[i] = Math.max(0, 340 - leak * i);
            }
            leaksDue(1 << leak, by);
            by[39]++;
            leaksDue(0, by);
        }
    }

    @Edges.Doc(promise = 36, says = {"bits 0 .. 9", "less by the LEAK (0 at least)"})
    static void leaksThatComeToNone() {
        leaksDue(1022, 1, 0);
        leaksDue(512, 9, 0);
        leaksDue(0, 10, 0);
        leaksDue(512, 10, 1, 0);
        leaksDue(256, 10, 2, 0, 0);
        leaksDue(1, 10, 10);
        leaksDue(0, 10, 11);
        leaksDue(0, 1, 0, 1);
        leaksDue(512, 999, 990);
        leaksDue(0, 999, 989);
    }
}
