import java.io.IOException;

/** Boundaries of promises 37 to 40: an evening by turns, chances, means, lots. */
final class EdgesChancesTest {
    private EdgesChancesTest() {
    }

    public static void main(String[] args) throws ReflectiveOperationException, IOException {
        Edges.run(EdgesChancesTest.class);
    }

    // ---- 37 evening

    @Edges.Doc(promise = 37, says = {"(v (0 .. 99) being MEANT), or nobody", "BAD; STATE: no MEMBERS."})
    static void eveningOfNoNumberIsBad() {
        Edges.range("evening(v, 2), v", Edges::busy, 0, 99, (x, v) -> x.evening(v, 2));
        Edges.range("evening(47, n), n", Edges::busy, 0, 2, (x, n) -> x.evening(47, n));
    }

    @Edges.Doc(promise = 37, says = "STATE: no MEMBERS.")
    static void eveningWithoutMembersIsState() {
        for (int n = 0; n <= 2; n++) {
            int turns = n;
            Edges.refused("evening(0, " + n + ")", Edges::shelves, x -> x.evening(0, turns), Edges.STATE);
        }
    }

    @Edges.Doc(promise = 37, says = "n (0 .. 2) times each: all SMOKE then")
    static void eveningOfNoTurns() {
        Check.due("no smoke", Check.club("p03 v0").evening(99, 0), 0);
        ClubSmoke x = Edges.fullClub();
        long before = x.digest();
        Check.due("all that hangs", x.evening(99, 0), 920);
        x.evening(99, 1);
        x.evening(99, 2);
        Check.due("nothing is done, forty deeds are no matter", x.digest(), before);
    }

    @Edges.Doc(promise = 37, says = {"By turns one lets a MEMBER TALK (v (0 .. 99) being MEANT), or nobody", "the other one opens a CELL, or none"})
    static void eveningOfOneAndTwoTurns() {
        ClubSmoke x = Check.club("p05 v0 v1 v2 v3 v4");
        Check.due("one turn, no smoke", x.evening(90, 1), 0);
        Check.due("two turns, no smoke", x.evening(90, 2), 0);
        for (int i = 0; i < 5; i++) {
            x.talk(i, 10 * i + 10);
        }
        Check.due("150 hang", x.evening(0, 0), 150);
        Check.due("50 less", x.evening(0, 1), 100);
        Check.due("50 and 40 less", x.evening(0, 2), 60);
        Check.due("nothing is meant to hang by 9", x.evening(9, 2), 60);
        Check.due("10 more, 50 less", x.evening(10, 1), 110);
    }

    /** No hour goes by in an evening, so that the leak is no matter: two turns end with 90 in one cell. */
    @Edges.Doc(promise = 37, says = {"n (0 .. 2) times each: all SMOKE then", "the LEAK (0 .. 9, one figure)"})
    static void eveningUnderEachLeak() {
        for (int leak = 0; leak <= 9; leak++) {
            ClubSmoke x = Check.club("p" + leak + "3 v0 v1");
            x.talk(0, 99);
            x.talk(1, 99);
            Check.due("no turn, leak " + leak, x.evening(99, 0), 180);
            Check.due("one turn, leak " + leak, x.evening(99, 1), 90);
            Check.due("two turns, leak " + leak, x.evening(99, 2), 90);
            Check.due("the hour, leak " + leak, x.count(2), 0);
        }
    }

    @Edges.Doc(promise = 37, says = {"the first one wanting much, the other one little", "999 at most: more is lost"})
    static void eveningAtMostSmoke() {
        ClubSmoke x = Check.club("p03 v0 v1");
        Edges.talks(x, 11, 0, 99);
        Edges.talks(x, 11, 1, 99);
        Check.due("999 of the one opened, 990 left", x.evening(99, 1), 990);
        Edges.talks(x, 1, 0, 99);
        Check.due("999 and 999, one opened", x.evening(99, 1), 999);
        Edges.talks(x, 1, 1, 99);
        Check.due("999 and 999, one opened", x.evening(99, 1), 999);
        Check.due("one opened, 90 more, the other opened", x.evening(99, 2), 90);
    }

    @Edges.Doc(promise = 37, says = {"the other one opens a CELL, or none", "CELLS the ceiling has (3 .. 8)"})
    static void eveningUnderThreeAndEightCells() {
        for (int cells : new int[] {3, 8}) {
            int last = cells - 1;
            ClubSmoke x = Check.club("p0" + cells + " v" + last + " v0 m" + last + " f1 y1 b1");
            x.talk(0, 50);
            x.talk(1, 40);
            Check.due("the last is opened", x.evening(0, 1), 40);
            Check.due("the first, too", x.evening(0, 2), 0);
            Check.due("60 of the first opened, 50 left", x.evening(20, 1), 50);
        }
    }

    @Edges.Doc(promise = 37, says = "in rings")
    static void eveningByRingsAroundTheEnds() {
        for (int seat = 0; seat < 3; seat++) {
            ClubSmoke x = Check.club("p03 b" + seat);
            Check.due("25 of 50 opened", x.evening(99, 1), 25);
            Check.due("twice", x.evening(99, 2), 37);
        }
    }

    // ---- 38 odds

    /** In 0, 1, .. 6 hours 60, 42, 32, 23, 14, 5, 0 hang. */
    private static ClubSmoke sixty() {
        ClubSmoke x = Check.club("p93 v0 v1");
        x.talk(0, 58);
        x.talk(1, 19);
        return x;
    }

    private static void oddsDue(ClubSmoke x, int w, int n, int p, long upper, long lower) {
        Edges.tellsBy("odds(" + w + ", " + n + ", " + p + ")", x, y -> y.odds(w, n, p), upper, lower);
    }

    @Edges.Doc(promise = 38, says = {"w (0 .. 7992) SMOKE or more comes down", "BAD; STATE: no MEMBERS."})
    static void oddsOfNoNumberIsBad() {
        Edges.range("odds(w, 3, 5), w", Edges::busy, 0, 7992, (x, w) -> x.odds(w, 3, 5));
        Edges.range("odds(9, n, 5), n", Edges::busy, 0, 6, (x, n) -> x.odds(9, n, 5));
        Edges.range("odds(9, 3, p), p", Edges::busy, 0, 12, (x, p) -> x.odds(9, 3, p));
    }

    @Edges.Doc(promise = 38, says = "STATE: no MEMBERS.")
    static void oddsWithoutMembersIsState() {
        Edges.refused("odds(0, 0, 0)", Edges::shelves, x -> x.odds(0, 0, 0), Edges.STATE);
        Edges.refused("odds(7992, 6, 12)", Edges::shelves, x -> x.odds(7992, 6, 12), Edges.STATE);
    }

    @Edges.Doc(promise = 38, says = {"if it comes behind 0, 1, .. HOURS by p (0 .. 12) of 12 each, if it has not yet, and behind n (0 .. 6) at last: 1."})
    static void oddsOfSureAndNoThunder() {
        int[] hanging = {60, 42, 32, 23, 14, 5, 0};
        for (int n = 0; n <= 6; n++) {
            ClubSmoke x = sixty();
            oddsDue(x, 60, n, 12, 1, 1);
            oddsDue(x, 61, n, 12, 0, 1);
            oddsDue(x, hanging[n], n, 0, 1, 1);
            oddsDue(x, hanging[n] + 1, n, 0, 0, 1);
            oddsDue(x, 0, n, 7, 1, 1);
            oddsDue(x, 7992, n, 7, 0, 1);
            Check.due("nothing is done", x.count(4), 60);
            Check.due("asked is not told", x.asked(), 0);
        }
    }

    @Edges.Doc(promise = 38, says = {"Chances that by THUNDER w (0 .. 7992) SMOKE or more comes down", "Chances, means, numbers of sets are told by upper(), lower(), in lowest terms"})
    static void oddsAtJustSoMuchSmoke() {
        ClubSmoke x = sixty();
        oddsDue(x, 42, 2, 6, 3, 4);
        oddsDue(x, 43, 2, 6, 1, 2);
        oddsDue(x, 32, 2, 6, 1, 1);
        oddsDue(x, 33, 2, 6, 3, 4);
        oddsDue(x, 43, 1, 1, 1, 12);
        oddsDue(x, 43, 1, 2, 1, 6);
        oddsDue(x, 43, 1, 11, 11, 12);
        oddsDue(x, 1, 6, 1, 2985984 - 1771561, 2985984);
        oddsDue(x, 1, 6, 11, 2985983, 2985984);
        oddsDue(x, 60, 6, 1, 1, 12);
    }

    @Edges.Doc(promise = 38, says = "the lower number above 0 (0 by 1)")
    static void oddsOfNoSmoke() {
        ClubSmoke x = Check.club("p93 v0");
        oddsDue(x, 1, 6, 5, 0, 1);
        oddsDue(x, 0, 6, 5, 1, 1);
        oddsDue(x, 1, 0, 0, 0, 1);
    }

    // ---- 39 mid

    private static void midDue(ClubSmoke x, int n, int p, long upper, long lower) {
        Edges.tellsBy("mid(" + n + ", " + p + ")", x, y -> y.mid(n, p), upper, lower);
    }

    @Edges.Doc(promise = 39, says = "The mean of how much comes down then: 1. BAD; STATE: no MEMBERS.")
    static void midOfNoNumberIsBad() {
        Edges.range("mid(n, 5), n", Edges::busy, 0, 6, (x, n) -> x.mid(n, 5));
        Edges.range("mid(3, p), p", Edges::busy, 0, 12, (x, p) -> x.mid(3, p));
    }

    @Edges.Doc(promise = 39, says = "STATE: no MEMBERS.")
    static void midWithoutMembersIsState() {
        Edges.refused("mid(0, 0)", Edges::shelves, x -> x.mid(0, 0), Edges.STATE);
        Edges.refused("mid(6, 12)", Edges::shelves, x -> x.mid(6, 12), Edges.STATE);
    }

    @Edges.Doc(promise = 39, says = "The mean of how much comes down then: 1.")
    static void midOfSureAndNoThunder() {
        int[] hanging = {60, 42, 32, 23, 14, 5, 0};
        for (int n = 0; n <= 6; n++) {
            ClubSmoke x = sixty();
            midDue(x, n, 12, 60, 1);
            midDue(x, n, 0, hanging[n], 1);
        }
        ClubSmoke x = sixty();
        midDue(x, 1, 6, 51, 1);
        midDue(x, 1, 5, 99, 2);
        midDue(x, 1, 1, 87, 2);
    }

    @Edges.Doc(promise = 39, says = "the lower number above 0 (0 by 1)")
    static void midOfNoSmoke() {
        ClubSmoke x = Check.club("p93 v0");
        midDue(x, 6, 5, 0, 1);
        midDue(x, 0, 0, 0, 1);
    }

    /** 3600 by 12 to the sixth is more than an int holds. */
    @Edges.Doc(promise = 39, says = "Chances, means, numbers of sets are told by upper(), lower(), in lowest terms")
    static void midGoesBeyondInts() {
        ClubSmoke x = Check.club("p18 v0 v1 v2 v3 v4");
        for (int i = 0; i < 5; i++) {
            Edges.talks(x, 8, i, 99);
        }
        Check.due("3600 hang", x.count(4), 3600);
        midDue(x, 6, 1, 10682749135L, 2985984);
        midDue(x, 6, 5, 10729464055L, 2985984);
        midDue(x, 6, 7, 10738933975L, 2985984);
        midDue(x, 6, 11, 10748185135L, 2985984);
        midDue(x, 6, 12, 3600, 1);
        midDue(x, 6, 0, 3570, 1);
    }

    // ---- 40 lots

    @Edges.Doc(promise = 40, says = {"n (1 .. 20) DEEDS truly by LOTS of a seed", "the first from a seed (1 .. 2147483646)"})
    static void lotsOfNoNumberIsBad() {
        Edges.range("lots(n, 5), n", Edges::busy, 1, 20, (x, n) -> x.lots(n, 5));
        Edges.range("lots(3, seed), seed", Edges::busy, 1, 2147483646, (x, seed) -> x.lots(3, seed));
    }

    @Edges.Doc(promise = 40, says = "STATE: no MEMBERS")
    static void lotsWithoutMembersIsState() {
        Edges.refused("lots(1, 1)", Edges::shelves, x -> x.lots(1, 1), Edges.STATE);
        Edges.refused("lots(20, 2147483646)", Edges::shelves, x -> x.lots(20, 2147483646), Edges.STATE);
    }

    private static Edges.State after(int deeds) {
        return () -> {
            ClubSmoke x = Check.club(Edges.SIX);
            x.talk(5, 99);
            Edges.hours(x, deeds - 1);
            return x;
        };
    }

    @Edges.Doc(promise = 40, says = "FULL: with n more there would be more than 40 DEEDS. (FULL last.)")
    static void lotsOfMoreThanFortyDeedsAreFull() {
        for (int n : new int[] {1, 2, 19, 20}) {
            ClubSmoke x = after(40 - n).make();
            Check.holds("lots(" + n + ", 1) to forty", x.lots(n, 1) >= 0);
            Check.due("deeds", x.count(3), 40);
            Edges.refused("lots(" + n + ", 1) to 41", after(41 - n), y -> y.lots(n, 1), Edges.FULL);
        }
        Edges.refused("lots(1, 1) of forty", Edges::fullClub, x -> x.lots(1, 1), Edges.FULL);
        Edges.refused("lots(20, 1) of forty", Edges::fullClub, x -> x.lots(20, 1), Edges.FULL);
    }

    private static void oneLot(int seed, int hour, int heard, int said, int... smoke) {
        ClubSmoke x = Check.club(Edges.SIX);
        x.talk(2, 9);
        x.talk(4, 40);
        // 9 hang in cell 1; 10, 5, 6 of the admiral in 4, 0, 3.
        int all = 0;
        for (int c = 0; c < smoke.length; c++) {
            all += smoke[c];
        }
        Check.due("lots(1, " + seed + ")", x.lots(1, seed), all);
        for (int c = 0; c < smoke.length; c++) {
            Check.due("by " + seed + " smoke(" + c + ")", x.smoke(c), smoke[c]);
        }
        Check.due("by " + seed + " the hour", x.count(2), hour);
        Check.due("by " + seed + " heard", x.count(5), heard);
        Check.due("by " + seed + " said", x.count(6), 19 + said);
        Check.due("by " + seed + " a deed", x.count(3), 3);
        Check.due("by " + seed + " undone", x.undo(2), 1);
        Check.due("by " + seed + " as before", x.count(4), 30);
    }

    @Edges.Doc(promise = 40, says = {"for each a number: it by 8, cut, modulo 8: 0 an HOUR, 1 the CELL that it modulo how many there are is opened (also without SMOKE),"
        + " 2 THUNDER (also without SMOKE), 3 .. 7 MEMBER it modulo how many there are TALKS, it by 64, cut, modulo 100 being MEANT: all SMOKE then",
        "a number comes from the one ahead by 48271 times it modulo 2147483647"})
    static void eachSortOfLot() {
        // By seed: the number, by 8 modulo 8; modulo 5 cells, 6 members; by 64 modulo 100.
        oneLot(9, 1, 0, 0, 2, 6, 0, 3, 7);           // 434439, 0
        oneLot(1, 0, 0, 0, 5, 0, 0, 6, 10);          // 48271, 1; cell 1
        oneLot(10, 0, 30, 0, 0, 0, 0, 0, 0);         // 482710, 2
        oneLot(2, 0, 0, 0, 5, 9 + 8, 0, 6, 10);      // 96542, 3; member 2; 8
        oneLot(11, 0, 0, 6, 5, 9 + 90, 0, 6, 10);    // 530981, 4; member 5; 96
        oneLot(3, 0, 0, 62, 5, 9, 0, 6, 10);         // 144813, 5; member 3; 62
        oneLot(12, 0, 0, 25, 5 + 25, 9, 0, 6, 10);   // 579252, 6; member 0; 50
        oneLot(4, 0, 0, 7, 5 + 2, 9, 0, 6 + 3, 10 + 4); // 193084, 7; member 4; 16
    }

    @Edges.Doc(promise = 40, says = "(also without SMOKE)")
    static void lotsWithoutSmokeAreDeeds() {
        for (int seed : new int[] {1, 10, 9}) {
            ClubSmoke x = Check.club(Edges.SIX);
            Check.due("lots(1, " + seed + ")", x.lots(1, seed), 0);
            Check.due("a deed", x.count(3), 1);
            Check.due("heard", x.count(5), 0);
            Check.due("the hour", x.count(2), seed == 9 ? 1 : 0);
            Check.due("undone", x.undo(0), 1);
        }
    }

    /** The numbers go beyond int when they are made, and stay below 2147483647. */
    @Edges.Doc(promise = 40, says = "a number comes from the one ahead by 48271 times it modulo 2147483647, the first from a seed")
    static void lotsDoNotWrapAround() {
        for (int seed : new int[] {1, 2, 44488, 44489, 1073741824, 2147483645, 2147483646}) {
            ClubSmoke x = Check.club(Edges.SIX);
            ClubSmoke y = Check.club(Edges.SIX);
            Check.due("lots(20, " + seed + ")", x.lots(20, seed), byHand(y, 20, seed));
            Check.due("heard", x.count(5), y.count(5));
            Check.due("said", x.count(6), y.count(6));
            Check.due("the hour", x.count(2), y.count(2));
            for (int c = 0; c < 5; c++) {
                Check.due("smoke(" + c + ")", x.smoke(c), y.smoke(c));
            }
        }
    }

    private static int byHand(ClubSmoke y, int n, int seed) {
        long lot = seed;
        for (int k = 0; k < n; k++) {
            lot = 48271L * lot % 2147483647L;
            switch ((int) (lot / 8 % 8)) {
                case 0: y.hour(); break;
                case 1: y.open((int) (lot % 5)); break;
                case 2: y.thunder(); break;
                default: y.talk((int) (lot % 6), (int) (lot / 64 % 100)); break;
            }
        }
        return y.count(4);
    }

    @Edges.Doc(promise = 40, says = "MEMBER it modulo how many there are TALKS")
    static void lotsOfOneMemberAndThreeCells() {
        ClubSmoke x = Check.club("p03 v2");
        // 193084: modulo 1 member 0; 16 being meant. 48271 modulo 3 is cell 1.
        Check.due("lots(1, 4)", x.lots(1, 4), 10);
        Check.due("smoke(2)", x.smoke(2), 10);
        Check.due("lots(1, 1), another cell", x.lots(1, 1), 10);
    }
}
