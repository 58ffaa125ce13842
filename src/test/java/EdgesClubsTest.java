import java.io.IOException;

/** Boundaries of promises 10 to 14: faults, clubs, members, marks, smoke. */
final class EdgesClubsTest {
    private EdgesClubsTest() {
    }

    public static void main(String[] args) throws ReflectiveOperationException, IOException {
        Edges.run(EdgesClubsTest.class);
    }

    private static void faultDue(String signs, int due) {
        ClubSmoke x = Edges.written(0, signs).make();
        long before = x.digest();
        Check.due("fault '" + signs + "'", x.fault(0), due);
        Check.due("fault '" + signs + "' changes nothing", x.digest(), before);
        Check.due("fault '" + signs + "' is no finding", x.finding(), 0);
        if (due != Edges.NONE) {
            Edges.refused("club '" + signs + "'", Edges.written(0, signs), y -> y.club(0), Edges.STATE);
        } else {
            Check.holds("club '" + signs + "'", x.club(0) > 0);
        }
    }

    private static String blanks(int n) {
        return " ".repeat(n);
    }

    /** Each byte at a place of p35m0: those among the fine ones are no fault, others are one just there. */
    private static void eachByteAt(int place, String fine) {
        for (int v = -128; v <= 127; v++) {
            ClubSmoke x = Edges.written(3, "p35m0").make();
            x.put(3, place, v);
            boolean isFine = v >= 0 && fine.indexOf((char) v) >= 0;
            Check.due("byte " + v + " at " + place, x.fault(3), isFine ? Edges.NONE : place);
        }
    }

    // ---- 10 fault

    @Edges.Doc(promise = 10, says = "First p (112)")
    static void firstSignIsP() {
        for (int v = -128; v <= 127; v++) {
            ClubSmoke x = Edges.written(3, "p35m0").make();
            x.put(3, 0, v);
            Check.due("first sign " + v, x.fault(3), v == 112 ? Edges.NONE : v == 32 ? 1 : 0);
        }
    }

    @Edges.Doc(promise = 10, says = "the LEAK (0 .. 9, one figure)")
    static void leakIsOneFigure() {
        eachByteAt(1, "0123456789");
        faultDue("p105m0", 2);
        faultDue("p-5m0", 1);
    }

    @Edges.Doc(promise = 10, says = "how many CELLS the ceiling has (3 .. 8)")
    static void cellsAreThreeToEight() {
        eachByteAt(2, "345678");
        faultDue("p310m0", 2);
        faultDue("p355m0", 3);
    }

    @Edges.Doc(promise = 10, says = {"a letter, the CELL", "0 MEMBER (m, 109), 1 BISHOP (b, 98; a MEMBER), 2 YOUNG (y, 121; a MEMBER),"
        + " 3 FOREIGN (f, 102; a MEMBER), 4 ADMIRAL (a, 97; a BISHOP), 5 VICAR (v, 118; a YOUNG)."})
    static void lettersAreThoseOfKinds() {
        for (int v = -128; v <= 127; v++) {
            ClubSmoke x = Edges.written(3, "p35m0").make();
            x.put(3, 3, v);
            boolean isKind = v == 109 || v == 98 || v == 121 || v == 102 || v == 97 || v == 118;
            // Behind a blank the figure stands where a letter is due.
            Check.due("letter " + v, x.fault(3), isKind ? Edges.NONE : v == 32 ? 4 : 3);
        }
    }

    @Edges.Doc(promise = 10, says = "the CELL (below as many as there are), one figure")
    static void cellIsBelowAsManyAsThereAre() {
        eachByteAt(4, "01234");
        for (int cells = 3; cells <= 8; cells++) {
            faultDue("p0" + cells + "m0", Edges.NONE);
            faultDue("p0" + cells + "m" + (cells - 1), Edges.NONE);
            faultDue("p0" + cells + "m" + cells, 4);
            faultDue("p0" + cells + "m0v" + (cells - 1) + "b" + cells, 8);
        }
        faultDue("p35m10", 5);
    }

    @Edges.Doc(promise = 10, says = "blanks (32) ahead, between, behind as many as wanted, none within items.")
    static void blanksStandBetweenItems() {
        faultDue(" p35 m0 b1 ", Edges.NONE);
        faultDue(blanks(9) + "p35" + blanks(9) + "m0" + blanks(9) + "b1" + blanks(9), Edges.NONE);
        faultDue("p 35m0", 1);
        faultDue("p3 5m0", 2);
        faultDue("p35m 0", 4);
        faultDue("p35m0 b 1", 7);
        faultDue("p35\tm0", 3);
    }

    @Edges.Doc(promise = 10, says = {"TEXTS 0 .. 3 rows of 0 to 60 bytes", "as many as wanted"})
    static void clubsMayFillSixtyBytes() {
        faultDue("p35m0" + blanks(55), Edges.NONE);
        faultDue(blanks(55) + "p35m0", Edges.NONE);
        faultDue(blanks(20) + "p35" + blanks(35) + "m0", Edges.NONE);
        faultDue(blanks(55) + "p35m5", 59);
        faultDue(blanks(56) + "p35m", 60);
        faultDue(blanks(57) + "p35", 60);
        faultDue(blanks(59) + "p", 60);
        faultDue(blanks(59) + "x", 59);
    }

    @Edges.Doc(promise = 10, says = "the TEXT's size, if its end comes too early, or there are blanks alone")
    static void endsThatComeTooEarly() {
        faultDue("p", 1);
        faultDue("p3", 2);
        faultDue("p35", 3);
        faultDue("p35 ", 4);
        faultDue("p35m", 4);
        faultDue("p35m0b", 6);
        faultDue("p35 m0 b", 8);
        faultDue("", 0);
        faultDue(" ", 1);
        faultDue(blanks(59), 59);
        faultDue(blanks(60), 60);
    }

    @Edges.Doc(promise = 10, says = {"Then MEMBERS (1 to 6; 0, 1, .. as they come)", "a seventh MEMBER: its place"})
    static void seventhMemberIsAFault() {
        faultDue("p35", 3);
        faultDue("p35m0", Edges.NONE);
        faultDue("p35m0m1m2m3m4", Edges.NONE);
        faultDue("p35m0m1m2m3m4m0", Edges.NONE);
        faultDue("p35m0m1m2m3m4m0   ", Edges.NONE);
        faultDue("p35m0m1m2m3m4m0m1", 15);
        faultDue("p35m0m1m2m3m4m0m", 15);
        faultDue("p35m0m1m2m3m4m0  m1", 17);
        faultDue("p35m0m1m2m3m4m0  0", 17);
    }

    @Edges.Doc(promise = 10, says = {"A FAULT of a TEXT; NONE: there is none.", "A FAULT is the first place at which it can't go on so"})
    static void firstFaultIsTold() {
        faultDue("xyz", 0);
        faultDue(" P99c9", 1);
        faultDue("pp99", 1);
        faultDue("p99m9", 2);
        faultDue("p35c9 c9", 3);
        faultDue("p35m9 c9", 4);
        faultDue("p35m0c9", 5);
    }

    @Edges.Doc(promise = 10, says = "BAD; NOTHING.")
    static void faultOfNoTextIsBad() {
        Edges.range("fault(t), t", Edges::busy, 0, 3, (x, t) -> x.fault(t));
    }

    @Edges.Doc(promise = 10, says = "BAD; NOTHING.")
    static void faultOfAMissingTextFindsNothing() {
        Edges.finds("fault(3)", Edges::busy, x -> x.fault(3), Edges.NOTHING);
        Edges.finds("fault(0)", Edges::shelves, x -> x.fault(0), Edges.NOTHING);
    }

    // ---- 11 club

    @Edges.Doc(promise = 11, says = {"how many MEMBERS", "MEMBERS (1 to 6; 0, 1, .. as they come)"})
    static void clubsOfOneToSix() {
        String all = "v7a6f5y4b3m2";
        for (int n = 1; n <= 6; n++) {
            ClubSmoke x = Edges.written(3, "p98" + all.substring(0, 2 * n)).make();
            Check.due("club of " + n, x.club(3), n);
            Check.due("members", x.count(0), n);
            for (int i = 0; i < n; i++) {
                int due = i;
                Edges.tells("kind of " + i, x, y -> y.member(due, 0), 5 - i);
                Edges.tells("cell of " + i, x, y -> y.member(due, 1), 7 - i);
            }
            Check.due("one more", x.member(n, 0), -1);
        }
    }

    @Edges.Doc(promise = 11, says = {"the LEAK (0 .. 9, one figure)", "CELLS the ceiling has (3 .. 8)"})
    static void leaksAndCellsOfClubs() {
        for (int leak : new int[] {0, 1, 8, 9}) {
            for (int cells : new int[] {3, 4, 7, 8}) {
                ClubSmoke x = Check.club("p" + leak + cells + "m0");
                Check.due("leak", x.count(7), leak);
                Check.due("cells", x.count(1), cells);
            }
        }
    }

    @Edges.Doc(promise = 11, says = "(anew: HOUR 0, no SMOKE, nothing HEARD, no DEEDS; kept CLUBS go)")
    static void clubsBeginAnew() {
        ClubSmoke x = Edges.busy();
        int asked = x.asked();
        long upper = x.upper();
        long lower = x.lower();
        x.talk(3, 50);
        Check.due("club(0)", x.club(0), 6);
        int[] due = {6, 5, 0, 0, 0, 0, 0, 3, 2, 2, 3, 3, 0};
        for (int what = 0; what <= 12; what++) {
            Check.due("count(" + what + ")", x.count(what), due[what]);
        }
        for (int i = 0; i < 6; i++) {
            int one = i;
            Edges.tells("talked " + i, x, y -> y.member(one, 3), 0);
        }
        for (int k = 0; k <= 2; k++) {
            Check.finds("on(" + k + ")", x, x.on(k), Edges.NOTHING);
        }
        Check.due("none to undo", x.undo(1), -1);
        ClubSmoke y = Edges.busy();
        y.club(0);
        Check.due("asked stays", y.asked(), asked);
        Check.due("upper stays", y.upper(), upper);
        Check.due("lower stays", y.lower(), lower);
    }

    @Edges.Doc(promise = 11, says = "(anew: HOUR 0, no SMOKE, nothing HEARD, no DEEDS; kept CLUBS go)")
    static void fullClubsBeginAnew() {
        ClubSmoke x = Edges.fullClub();
        Check.due("club(0)", x.club(0), 6);
        Edges.hours(x, 39);
        Check.due("the 40th", x.talk(0, 9), 4);
        Check.due("the 41st", x.talk(0, 9), -2);
    }

    /** A smaller club behind a greater one has none of the greater one's cells and members. */
    @Edges.Doc(promise = 11, says = "A CLUB by a TEXT (anew")
    static void smallerClubsFollowGreaterOnes() {
        ClubSmoke x = Check.club("p38 v7 v6 v5 v4 v3 v2");
        for (int i = 0; i < 6; i++) {
            x.talk(i, 99);
        }
        Check.write(x, 1, "p03b2");
        Check.due("club(1)", x.club(1), 1);
        Check.due("no smoke", x.count(4), 0);
        Check.due("smoke(3)", x.smoke(3), -1);
        Check.due("says(1, 1)", x.says(1, 1), -1);
        x.talk(0, 99);
        Check.due("behind the last comes 0", x.smoke(0), 12);
        Check.due("all smoke", x.count(4), 50);
    }

    @Edges.Doc(promise = 11, says = "BAD; NOTHING; STATE: a FAULT. (STATE behind NOTHING.)")
    static void clubOfNoTextIsBad() {
        Edges.range("club(t), t", Edges::busy, 0, 3, (x, t) -> x.club(t));
    }

    @Edges.Doc(promise = 11, says = "BAD; NOTHING; STATE: a FAULT. (STATE behind NOTHING.)")
    static void clubOfAMissingTextFindsNothing() {
        Edges.finds("club(3)", Edges::busy, x -> x.club(3), Edges.NOTHING);
        Edges.finds("club(0)", Edges::shelves, x -> x.club(0), Edges.NOTHING);
    }

    @Edges.Doc(promise = 11, says = "STATE: a FAULT")
    static void clubWithAFaultIsState() {
        Edges.refused("club(1)", Edges::busy, x -> x.club(1), Edges.STATE);
        Edges.refused("club(2), empty", Edges::busy, x -> x.club(2), Edges.STATE);
        Edges.refused("club(1), no club yet", Edges::shelves, x -> x.club(1), Edges.STATE);
        Edges.refused("a fault at the end", () -> {
            ClubSmoke x = Edges.busy();
            Check.write(x, 3, "p73 f2 f2 f3");
            return x;
        }, x -> x.club(3), Edges.STATE);
    }

    // ---- 12 member

    @Edges.Doc(promise = 12, says = "BAD.")
    static void memberOfNoNumberIsBad() {
        Edges.range("member(i, 0), i", Edges::busy, 0, 5, (x, i) -> x.member(i, 0));
        Edges.range("member(i, 3), i of one", Edges.club("p03m0"), 0, 0, (x, i) -> x.member(i, 3));
        Edges.range("member(0, what), what", Edges::busy, 0, 3, (x, what) -> x.member(0, what));
        Edges.refused("no members", Edges::shelves, x -> x.member(0, 0), Edges.BAD);
    }

    @Edges.Doc(promise = 12, says = {"Of a MEMBER: 0 the KIND, 1 the CELL, 2 SMOKE that hangs there, 3 how often one TALKED", "999 at most"})
    static void memberUnderMostSmoke() {
        ClubSmoke x = Check.club("p08 v7 m7");
        Edges.tells("no smoke", x, y -> y.member(0, 2), 0);
        Edges.tells("not yet", x, y -> y.member(0, 3), 0);
        Edges.talks(x, 40, 0, 99);
        Edges.tells("its smoke", x, y -> y.member(0, 2), 999);
        Edges.tells("the other's, the same", x, y -> y.member(1, 2), 999);
        Edges.tells("forty times", x, y -> y.member(0, 3), 40);
        Edges.tells("the other, never", x, y -> y.member(1, 3), 0);
        Edges.tells("the last cell", x, y -> y.member(0, 1), 7);
    }

    // ---- 13 mark

    @Edges.Doc(promise = 13, says = {"What a MEMBER that IS of a KIND tells", "BAD: also KIND 0; UNLIKE.", "UNLIKE (a MEMBER of another KIND; a number that is none)"})
    static void markOfKindsThatAMemberIs() {
        String[] isOf = {"", "1", "2", "3", "14", "25"};
        for (int i = 0; i < 6; i++) {
            for (int kind = 1; kind <= 5; kind++) {
                int one = i;
                int asked = kind;
                if (isOf[i].indexOf((char) ('0' + kind)) >= 0) {
                    Check.holds("mark(" + i + ", " + kind + ")", Edges.busy().mark(i, kind) >= 0);
                } else {
                    Edges.finds("mark(" + i + ", " + kind + ")", Edges::busy, x -> x.mark(one, asked), Edges.UNLIKE);
                }
            }
        }
    }

    @Edges.Doc(promise = 13, says = "BAD: also KIND 0; UNLIKE.")
    static void markOfNoNumberIsBad() {
        Edges.range("mark(0, kind), kind", Edges::busy, 1, 5, (x, kind) -> x.mark(0, kind));
        Edges.range("mark(4, kind), kind", Edges::busy, 1, 5, (x, kind) -> x.mark(4, kind));
        Edges.range("mark(i, 1), i", Edges::busy, 0, 5, (x, i) -> x.mark(i, 1));
        Edges.range("mark(i, 1), i of one", Edges.club("p03b0"), 0, 0, (x, i) -> x.mark(i, 1));
        Edges.refused("no members", Edges::shelves, x -> x.mark(0, 1), Edges.BAD);
    }

    @Edges.Doc(promise = 13, says = {"a BISHOP (ADMIRAL, too) SMOKE in the three CELLS of its rings together",
        "to the CELL behind (behind the last one comes 0)"})
    static void ringsGoAroundTheEnds() {
        ClubSmoke x = Check.club("p05 b0 a4 b2 v0 v2 v3");
        x.talk(3, 10);
        x.talk(4, 20);
        x.talk(5, 30);
        Check.due("cells 4, 0, 1", x.mark(0, 1), 10);
        Check.due("cells 3, 4, 0", x.mark(1, 1), 40);
        Check.due("cells 1, 2, 3", x.mark(2, 1), 50);
    }

    @Edges.Doc(promise = 13, says = "SMOKE in the three CELLS of its rings together")
    static void ringsOfNoSmokeAndOfMost() {
        ClubSmoke x = Check.club("p03 a0 v0 v1 v2");
        Check.due("no smoke", x.mark(0, 1), 0);
        for (int i = 1; i <= 3; i++) {
            Edges.talks(x, 12, i, 99);
        }
        Check.due("999 each", x.mark(0, 1), 2997);
    }

    @Edges.Doc(promise = 13, says = "a YOUNG one (VICAR, too) how many other YOUNG ones (VICARS, too) are under the same CELL")
    static void youngOnesAloneAndAllSix() {
        Check.due("alone", Check.club("p03 y0").mark(0, 2), 0);
        Check.due("none under the same", Check.club("p03 y0 y1 v2 m0 b0").mark(0, 2), 0);
        ClubSmoke x = Check.club("p03 y2 v2 y2 v2 y2 v2");
        for (int i = 0; i < 6; i++) {
            Check.due("mark(" + i + ", 2)", x.mark(i, 2), 5);
        }
    }

    @Edges.Doc(promise = 13, says = "a FOREIGN one how many (others) BREATHE nothing of 5")
    static void foreignOnesAloneAndAllSix() {
        Check.due("alone", Check.club("p03 f0").mark(0, 3), 0);
        Check.due("none such", Check.club("p03 f0 m0 b0 y0 a0").mark(0, 3), 0);
        Check.due("vicars", Check.club("p03 v0 v1 f0 v2").mark(2, 3), 3);
        ClubSmoke x = Check.club("p03 f2 f1 f2 f0 f2 f2");
        for (int i = 0; i < 6; i++) {
            Check.due("mark(" + i + ", 3)", x.mark(i, 3), 5);
        }
    }

    @Edges.Doc(promise = 13, says = {"an ADMIRAL how many meanings of 0 .. 99 it SAYS as 0", "a VICAR how many of these it SAYS as it does 7"})
    static void meaningsOfAdmiralsAndVicars() {
        ClubSmoke x = Check.club("p03 a0 v2");
        Check.due("0, 1, 2, 3", x.mark(0, 4), 4);
        Check.due("7, 17, .. 97", x.mark(1, 5), 10);
    }

    // ---- 14 smoke

    @Edges.Doc(promise = 14, says = "SMOKE of a CELL. BAD.")
    static void smokeOfNoCellIsBad() {
        Edges.range("smoke(c) of five", Edges::busy, 0, 4, (x, c) -> x.smoke(c));
        Edges.range("smoke(c) of three", Edges.club("p03m0"), 0, 2, (x, c) -> x.smoke(c));
        Edges.range("smoke(c) of eight", Edges.club("p08m0"), 0, 7, (x, c) -> x.smoke(c));
        Edges.refused("no cells", Edges::shelves, x -> x.smoke(0), Edges.BAD);
    }

    @Edges.Doc(promise = 14, says = "SMOKE of a CELL 999 at most: more is lost")
    static void smokeOfNoneAndOfMost() {
        ClubSmoke x = Check.club("p08 v7 v0");
        Check.due("none", x.smoke(7), 0);
        Edges.talks(x, 11, 0, 99);
        Check.due("990", x.smoke(7), 990);
        Edges.talks(x, 1, 0, 99);
        Check.due("999", x.smoke(7), 999);
        Edges.talks(x, 1, 0, 99);
        Check.due("999 still", x.smoke(7), 999);
        Check.due("none comes to others", x.count(4), 999);
    }

    @Edges.Doc(promise = 14, says = {"half of it (cut) there, of the rest half (cut) to the CELL behind (behind the last one comes 0)",
        "what is left to the one ahead"})
    static void ringsCutAndGoAround() {
        // What an admiral breathes of 0 .. 7, and where that comes: there, behind, ahead.
        int[][] due = {{0, 0, 0}, {0, 0, 1}, {1, 0, 1}, {1, 1, 1}, {1, 1, 1}, {2, 1, 1}, {2, 1, 1}, {2, 1, 2}};
        for (int cells = 3; cells <= 8; cells++) {
            for (int seat : new int[] {0, 1, cells - 1}) {
                for (int v = 0; v < due.length; v++) {
                    ClubSmoke x = Check.club("p0" + cells + "a" + seat);
                    x.talk(0, v);
                    String of = v + " under " + seat + " of " + cells;
                    Check.due("there " + of, x.smoke(seat), due[v][0]);
                    Check.due("behind " + of, x.smoke((seat + 1) % cells), due[v][1]);
                    Check.due("ahead " + of, x.smoke((seat + cells - 1) % cells), due[v][2]);
                    Check.due("in all " + of, x.count(4), due[v][0] + due[v][1] + due[v][2]);
                }
            }
        }
    }
}
