import java.io.IOException;

/** Boundaries of promises 15 to 21: talk, hour, open, thunder, undo, keep, on. */
final class EdgesDeedsTest {
    private static final int HOUR = -1, WINDOW = -2, THUNDER = -3;

    private EdgesDeedsTest() {
    }

    public static void main(String[] args) throws ReflectiveOperationException, IOException {
        Edges.run(EdgesDeedsTest.class);
    }

    private static ClubSmoke thirtyNine() {
        ClubSmoke x = Edges.fullClub();
        x.undo(39);
        return x;
    }

    private static ClubSmoke hanging(String signs, int v) {
        ClubSmoke x = Check.club(signs);
        x.talk(0, v);
        return x;
    }

    // ---- 15 talk

    @Edges.Doc(promise = 15, says = "A MEMBER TALKS, v (0 .. 99) being MEANT: what is SAID. BAD; FULL: 40 DEEDS.")
    static void talkOfNoMemberIsBad() {
        Edges.range("talk(i, 9), i", Edges::busy, 0, 5, (x, i) -> x.talk(i, 9));
        Edges.range("talk(i, 9), i of one", Edges.club("p03m0"), 0, 0, (x, i) -> x.talk(i, 9));
        Edges.refused("no members", Edges::shelves, x -> x.talk(0, 9), Edges.BAD);
    }

    @Edges.Doc(promise = 15, says = "v (0 .. 99) being MEANT")
    static void talkOfNoMeaningIsBad() {
        for (int i = 0; i < 6; i++) {
            int one = i;
            Edges.range("talk(" + i + ", v), v", Edges::busy, 0, 99, (x, v) -> x.talk(one, v));
        }
    }

    @Edges.Doc(promise = 15, says = {"Of it one SAYS half (cut); a YOUNG one its tens alone (47: 40); a VICAR what a YOUNG one would not (47: 7);"
        + " a FOREIGN one all; an ADMIRAL as a BISHOP, less 1 (0 at least).", "One BREATHES the rest."})
    static void talkOfLeastAndGreatestMeaning() {
        int[] ofMost = {49, 49, 90, 99, 48, 9};
        for (int i = 0; i < 6; i++) {
            ClubSmoke x = Check.club(Edges.SIX);
            Check.due("talk(" + i + ", 0)", x.talk(i, 0), 0);
            Check.due("no smoke", x.count(4), 0);
            Check.due("a deed all the same", x.count(3), 1);
            Check.due("talk(" + i + ", 99)", x.talk(i, 99), ofMost[i]);
            Check.due("all smoke", x.count(4), 99 - ofMost[i]);
            Check.due("said in all", x.count(6), ofMost[i]);
            int one = i;
            Edges.tells("talked", x, y -> y.member(one, 3), 2);
        }
    }

    @Edges.Doc(promise = 15, says = "an ADMIRAL as a BISHOP, less 1 (0 at least)")
    static void admiralsSayNoughtAtLeast() {
        int[] said = {0, 0, 0, 0, 1, 1, 2};
        for (int v = 0; v < said.length; v++) {
            Check.due("talk(4, " + v + ")", Check.club(Edges.SIX).talk(4, v), said[v]);
        }
    }

    @Edges.Doc(promise = 15, says = "FULL: 40 DEEDS. (FULL last.)")
    static void talkOfFortyDeedsIsFull() {
        Check.due("the 40th", thirtyNine().talk(0, 9), 4);
        Edges.refused("the 41st", Edges::fullClub, x -> x.talk(0, 9), Edges.FULL);
        Edges.refused("the 41st, 0 being meant", Edges::fullClub, x -> x.talk(3, 0), Edges.FULL);
    }

    @Edges.Doc(promise = 15, says = "SMOKE of a CELL 999 at most: more is lost")
    static void talkLosesWhatIsMoreThanMost() {
        for (int v : new int[] {16, 17, 18, 19, 20, 99}) {
            ClubSmoke x = Check.club("p13 v0 m0");
            Edges.talks(x, 11, 0, 99);
            Check.due("half of " + v + " is said", x.talk(1, v), v / 2);
            int due = Math.min(999, 990 + v - v / 2);
            Check.due("smoke(0)", x.smoke(0), due);
            Check.due("one less in an hour", x.hour(), 1);
            Check.due("smoke(0) then", x.smoke(0), due - 1);
        }
    }

    @Edges.Doc(promise = 15, says = "in rings: half of it (cut) there, of the rest half (cut) to the CELL behind")
    static void ringsAreLostCellByCell() {
        for (int seat = 0; seat < 3; seat++) {
            ClubSmoke x = Check.club("p03 b" + seat + " v" + (seat + 1) % 3);
            Edges.talks(x, 12, 1, 99);
            x.talk(0, 99);
            Check.due("there", x.smoke(seat), 25);
            Check.due("behind, at most", x.smoke((seat + 1) % 3), 999);
            Check.due("ahead", x.smoke((seat + 2) % 3), 13);
        }
    }

    // ---- 16 hour

    @Edges.Doc(promise = 16, says = {"An HOUR: how much SMOKE leaked.", "SMOKE of each CELL is less by the LEAK (0 at least)"})
    static void hourLeaksNoMoreThanThereIs() {
        for (int leak = 0; leak <= 9; leak++) {
            for (int smoke : new int[] {0, leak - 1, leak, leak + 1}) {
                if (smoke >= 0) {
                    ClubSmoke x = hanging("p" + leak + "3 m2 f0", 2 * smoke);
                    Check.due("smoke", x.smoke(2), smoke);
                    Check.due("hour() of " + smoke + " by " + leak, x.hour(), Math.min(smoke, leak));
                    Check.due("left", x.smoke(2), Math.max(0, smoke - leak));
                    Check.due("the hour", x.count(2), 1);
                }
            }
        }
    }

    @Edges.Doc(promise = 16, says = "SMOKE of each CELL is less by the LEAK (0 at least), then the HOUR is 1 more")
    static void hourOfEachCell() {
        ClubSmoke x = Check.club("p98 v0 m7 m3");
        x.talk(0, 99);
        x.talk(1, 20);
        x.talk(2, 9);
        Check.due("9, 9 and 5", x.hour(), 23);
        Check.due("9, 1 and 0", x.hour(), 10);
        Check.due("the hour", x.count(2), 2);
        Check.due("nothing is heard", x.count(5), 0);
    }

    @Edges.Doc(promise = 16, says = "STATE: no MEMBERS; FULL. (FULL last.)")
    static void hourWithoutMembersIsState() {
        Edges.refused("no members", Edges::shelves, x -> x.hour(), Edges.STATE);
        Check.due("no smoke is no matter", Check.club("p33m0").hour(), 0);
    }

    @Edges.Doc(promise = 16, says = "STATE: no MEMBERS; FULL. (FULL last.)")
    static void hourOfFortyDeedsIsFull() {
        Check.due("the 40th", thirtyNine().hour(), 3);
        Edges.refused("the 41st", Edges::fullClub, x -> x.hour(), Edges.FULL);
        Edges.refused("the 41st, no smoke", Edges::fullWithoutSmoke, x -> x.hour(), Edges.FULL);
    }

    @Edges.Doc(promise = 16, says = "These are DEEDS 0, 1, .. (40 at most).")
    static void fortyHours() {
        ClubSmoke x = Check.club("p33m0");
        Edges.hours(x, 40);
        Check.due("the hour", x.count(2), 40);
        Check.due("deeds", x.count(3), 40);
        Check.due("one more", x.hour(), -2);
    }

    // ---- 17 open

    @Edges.Doc(promise = 17, says = "A WINDOW: how much SMOKE was there. BAD; STATE: none; FULL. (FULL last.)")
    static void openOfNoCellIsBad() {
        Edges.range("open(c) of five", Edges::busy, 0, 4, (x, c) -> x.open(c));
        Edges.range("open(c) of three", Edges.club("p03m0"), 0, 2, (x, c) -> x.open(c));
        Edges.range("open(c) of eight", Edges.club("p08m0"), 0, 7, (x, c) -> x.open(c));
        Edges.refused("no cells", Edges::shelves, x -> x.open(0), Edges.BAD);
    }

    @Edges.Doc(promise = 17, says = "STATE: none")
    static void openWithoutSmokeIsState() {
        Edges.refused("no smoke at all", Edges.club("p03m0"), x -> x.open(0), Edges.STATE);
        Edges.refused("smoke in others alone", () -> hanging("p03m0", 9), x -> x.open(1), Edges.STATE);
        Edges.refused("opened already", () -> {
            ClubSmoke x = hanging("p03m0", 9);
            x.open(0);
            return x;
        }, x -> x.open(0), Edges.STATE);
    }

    @Edges.Doc(promise = 17, says = {"A WINDOW: how much SMOKE was there.", "a CELL has no SMOKE"})
    static void openOfLeastAndMostSmoke() {
        ClubSmoke x = hanging("p08 m0 v7", 1);
        Check.due("open(0) of 1", x.open(0), 1);
        Check.due("smoke(0)", x.smoke(0), 0);
        Edges.talks(x, 12, 1, 99);
        Check.due("open(7) of 999", x.open(7), 999);
        Check.due("all smoke", x.count(4), 0);
        Check.due("nothing is heard", x.count(5), 0);
    }

    @Edges.Doc(promise = 17, says = "BAD; STATE: none; FULL. (FULL last.)")
    static void openOfFortyDeedsIsFull() {
        Check.due("the 40th", thirtyNine().open(1), 900);
        Edges.refused("the 41st", Edges::fullClub, x -> x.open(1), Edges.FULL);
    }

    // ---- 18 thunder

    @Edges.Doc(promise = 18, says = "STATE: no SMOKE (no MEMBERS); FULL. (FULL last.)")
    static void thunderWithoutSmokeIsState() {
        Edges.refused("no members", Edges::shelves, x -> x.thunder(), Edges.STATE);
        Edges.refused("no smoke", Edges.club("p03m0"), x -> x.thunder(), Edges.STATE);
        Edges.refused("come down already", () -> {
            ClubSmoke x = hanging("p03m0", 9);
            x.thunder();
            return x;
        }, x -> x.thunder(), Edges.STATE);
    }

    @Edges.Doc(promise = 18, says = {"THUNDER: HEARD then.", "all SMOKE comes down; HEARD is so much more"})
    static void thunderOfLeastSmokeAndOfAll() {
        ClubSmoke x = hanging("p08 m7 v0 b3", 1);
        Check.due("1 of the last cell", x.thunder(), 1);
        x.talk(1, 99);
        x.talk(2, 99);
        x.talk(0, 99);
        Check.due("190 more", x.thunder(), 191);
        Check.due("all smoke", x.count(4), 0);
        Check.due("heard", x.count(5), 191);
    }

    @Edges.Doc(promise = 18, says = "STATE: no SMOKE (no MEMBERS); FULL. (FULL last.)")
    static void thunderOfFortyDeedsIsFull() {
        Check.due("the 40th", thirtyNine().thunder(), 900);
        Edges.refused("the 41st", Edges::fullClub, x -> x.thunder(), Edges.FULL);
    }

    // ---- 19 undo

    @Edges.Doc(promise = 19, says = "DEEDS from number n on are undone: how many. BAD.")
    static void undoOfNoDeedIsBad() {
        Check.due("deeds", Edges.busy().count(3), 8);
        Edges.range("undo(n) of 8", Edges::busy, 0, 8, (x, n) -> x.undo(n));
        Edges.range("undo(n) of 40", Edges::fullClub, 0, 40, (x, n) -> x.undo(n));
        Edges.range("undo(n) of none", Edges.club("p03m0"), 0, 0, (x, n) -> x.undo(n));
        Edges.range("undo(n), no members", Edges::shelves, 0, 0, (x, n) -> x.undo(n));
    }

    @Edges.Doc(promise = 19, says = "DEEDS from number n on are undone: how many.")
    static void undoOfNoneOneAndAll() {
        int[][] due = {{40, 0}, {39, 1}, {1, 39}, {0, 40}};
        for (int[] d : due) {
            ClubSmoke x = Edges.fullClub();
            long before = x.digest();
            Check.due("undo(" + d[0] + ")", x.undo(d[0]), d[1]);
            Check.due("deeds", x.count(3), d[0]);
            Check.holds("undone", d[1] == 0 == (x.digest() == before));
        }
        ClubSmoke x = Edges.fullClub();
        x.undo(0);
        for (int what : new int[] {2, 3, 4, 5, 6}) {
            Check.due("count(" + what + ")", x.count(what), 0);
        }
        Edges.tells("talked", x, y -> y.member(5, 3), 0);
        Check.due("members stay", x.count(0), 6);
        Check.due("kept clubs stay", x.count(12), 1);
    }

    /** What was lost at 999, leaked or opened comes back as it was. */
    @Edges.Doc(promise = 19, says = {"DEEDS from number n on are undone", "SMOKE of a CELL 999 at most: more is lost"})
    static void undoOfWhatWasLost() {
        ClubSmoke x = Check.club("p93 v0 f1");
        Edges.talks(x, 13, 0, 99);
        x.hour();
        x.open(0);
        x.talk(0, 10);
        x.thunder();
        int[] smoke = {0, 90, 180, 270, 360, 450, 540, 630, 720, 810, 900, 990, 999, 999, 990, 0, 10, 0};
        for (int n = 16; n >= 0; n--) {
            Check.due("undo(" + n + ")", x.undo(n), 1);
            Check.due("smoke behind " + n, x.smoke(0), smoke[n]);
        }
    }

    private static ClubSmoke eightCells() {
        return Check.club("p38 m0b1y1f2a7v7");
    }

    /** One of forty: each sort of deed, the first and last cell and member, nothing and most being meant. */
    private static void deed(ClubSmoke x, int n) {
        int[][] deeds = {{0, 99}, {5, 99}, {4, 99}, {0, 0}, {WINDOW, 7}, {WINDOW, 0}, {HOUR, 0}, {3, 99}, {2, 9},
            {THUNDER, 0}};
        int[] d = deeds[n % deeds.length];
        int answer = d[0] == HOUR ? x.hour() : d[0] == WINDOW ? x.open(d[1]) : d[0] == THUNDER ? x.thunder() : x.talk(d[0], d[1]);
        Check.holds("deed " + n, answer >= 0);
    }

    @Edges.Doc(promise = 19, says = {"DEEDS from number n on are undone", "What is done: TALKING, an HOUR, a WINDOW, THUNDER."})
    static void undoOneByOneOfForty() {
        ClubSmoke x = eightCells();
        long[] before = new long[40];
        for (int n = 0; n < 40; n++) {
            before[n] = x.digest();
            deed(x, n);
        }
        for (int n = 39; n >= 0; n--) {
            Check.due("undo(" + n + ")", x.undo(n), 1);
            Check.due("as before deed " + n, x.digest(), before[n]);
        }
    }

    @Edges.Doc(promise = 19, says = {"DEEDS from number n on are undone", "These are DEEDS 0, 1, .. (40 at most)."})
    static void undoMakesRoomForDeeds() {
        ClubSmoke x = Edges.fullClub();
        x.undo(38);
        Check.due("39", x.hour(), 3);
        Check.due("40", x.hour(), 3);
        Check.due("41", x.hour(), -2);
    }

    // ---- 20 keep

    @Edges.Doc(promise = 20, says = "The CLUB (as it is, DEEDS) is kept in a place (0 .. 2): how many DEEDS. BAD; STATE: no MEMBERS.")
    static void keepOfNoPlaceIsBad() {
        Edges.range("keep(k)", Edges::busy, 0, 2, (x, k) -> x.keep(k));
    }

    @Edges.Doc(promise = 20, says = "STATE: no MEMBERS")
    static void keepWithoutMembersIsState() {
        for (int k = 0; k <= 2; k++) {
            int place = k;
            Edges.refused("keep(" + k + ")", Edges::shelves, x -> x.keep(place), Edges.STATE);
        }
    }

    @Edges.Doc(promise = 20, says = "is kept in a place (0 .. 2): how many DEEDS")
    static void keepOfNoDeedsAndOfForty() {
        ClubSmoke x = Check.club("p03m0");
        Check.due("keep(0)", x.keep(0), 0);
        Check.due("kept", x.count(12), 1);
        Edges.hours(x, 40);
        Check.due("keep(2), no deed", x.keep(2), 40);
        Check.due("keep(2) again", x.keep(2), 40);
        Check.due("kept", x.count(12), 2);
        Check.due("keep(1)", x.keep(1), 40);
        Check.due("kept", x.count(12), 3);
        Check.due("deeds", x.count(3), 40);
    }

    @Edges.Doc(promise = 20, says = "The CLUB (as it is, DEEDS) is kept in a place (0 .. 2)")
    static void placesAreApart() {
        ClubSmoke x = Check.club("p03 v0");
        for (int k = 0; k <= 2; k++) {
            x.keep(k);
            x.talk(0, 10 * k + 10);
        }
        for (int k = 2; k >= 0; k--) {
            Check.due("on(" + k + ")", x.on(k), k);
            Check.due("smoke", x.smoke(0), new int[] {0, 10, 30}[k]);
        }
        Check.due("kept anew", x.keep(2), 0);
        Check.due("on(2)", x.on(2), 0);
        Check.due("on(1)", x.on(1), 1);
    }

    // ---- 21 on

    @Edges.Doc(promise = 21, says = "The CLUB is as it was kept: how many DEEDS. BAD; NOTHING.")
    static void onOfNoPlaceIsBad() {
        Edges.range("on(k)", Edges::busy, 0, 2, (x, k) -> x.on(k));
    }

    @Edges.Doc(promise = 21, says = {"BAD; NOTHING.", "NOTHING (a ROW, a TEXT, a kept CLUB that is missing)"})
    static void onOfAMissingClubFindsNothing() {
        Edges.finds("on(1)", Edges::busy, x -> x.on(1), Edges.NOTHING);
        for (int k = 0; k <= 2; k++) {
            int place = k;
            Edges.finds("on(" + k + ")", Edges::shelves, x -> x.on(place), Edges.NOTHING);
        }
    }

    @Edges.Doc(promise = 21, says = "The CLUB is as it was kept: how many DEEDS.")
    static void onToNoDeedsAndToForty() {
        ClubSmoke x = Check.club(Edges.SIX);
        x.keep(0);
        long empty = x.digest();
        x.talk(1, 99);
        Edges.hours(x, 20);
        Edges.talks(x, 19, 5, 77);
        x.keep(1);
        x.keep(2);
        long full = x.digest();
        Check.due("on(0)", x.on(0), 0);
        Check.due("no smoke", x.count(4), 0);
        Check.due("the hour", x.count(2), 0);
        Check.due("none to undo", x.undo(1), -1);
        Check.due("on(1)", x.on(1), 40);
        Check.due("as it was kept", x.digest(), full);
        Check.due("still full", x.hour(), -2);
        Check.due("its deeds come along", x.undo(1), 39);
        Check.due("the first one", x.smoke(1), 25);
        Check.due("on(2)", x.on(2), 40);
        Check.due("as it was kept", x.digest(), full);
        Check.holds("not the first digest", full != empty);
    }

    /** What is done behind keeping it does not come to what was kept. */
    @Edges.Doc(promise = 21, says = {"The CLUB is as it was kept", "(as it is, DEEDS)"})
    static void onBehindFortyOtherDeeds() {
        ClubSmoke x = eightCells();
        for (int n = 0; n < 40; n++) {
            deed(x, n);
        }
        x.keep(1);
        long[] behind = new long[41];
        for (int n = 40; n >= 0; n--) {
            x.undo(n);
            behind[n] = x.digest();
        }
        Edges.talks(x, 20, 1, 77);
        Edges.hours(x, 20);
        Check.due("on(1)", x.on(1), 40);
        for (int n = 40; n >= 0; n--) {
            Check.due("undo(" + n + ")", x.undo(n), n == 40 ? 0 : 1);
            Check.due("as it was behind " + n, x.digest(), behind[n]);
        }
        Edges.talks(x, 40, 0, 1);
        Check.due("on(1) again", x.on(1), 40);
        Check.due("as it was kept", x.digest(), behind[40]);
    }

    @Edges.Doc(promise = 21, says = "The CLUB is as it was kept")
    static void onLeavesWhatIsNoClub() {
        ClubSmoke x = Edges.busy();
        int asked = x.asked();
        int finding = x.finding();
        long upper = x.upper();
        x.row(4, 2);
        x.text(3, 9);
        Check.due("on(0)", x.on(0), 1);
        Check.due("rows", x.count(10), 4);
        Check.due("texts", x.count(11), 4);
        Check.due("asked", x.asked(), asked);
        Check.due("finding", x.finding(), finding);
        Check.due("upper", x.upper(), upper);
        Check.due("kept clubs", x.count(12), 2);
    }
}
