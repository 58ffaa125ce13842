import java.io.IOException;

/** 'What it is' and 'Terms': what holds for several calls at once; each test has the number of a promise that it holds for. */
final class EdgesTermsTest {
    private static final int MIN = Edges.MIN, MAX = Edges.MAX;

    private EdgesTermsTest() {
    }

    public static void main(String[] args) throws ReflectiveOperationException, IOException {
        Edges.run(EdgesTermsTest.class);
    }

    // ---- what it is

    /** The 512th call is answered as an early one is, whatever was done, told or found by those ahead of it. */
    @Edges.Doc(promise = 1, says = "An object is used for at most 512 calls after it has been made; what later calls answer is free.")
    static void fiveHundredAndTwelveCalls() {
        Edges.Call[] last = {x -> x.smoke(2), x -> x.talks(99, 2, 270, 5), x -> x.findings(1), x -> x.finding(), x -> x.evening(99, 0),
            x -> x.hour(), x -> x.thunder(), x -> x.lots(1, 1), x -> x.row(5, 40), x -> x.text(3, 60), x -> x.keep(2), x -> x.undo(0)};
        int[] due = {90, 2, 500, 1, 90, 0, 90, 90, 40, 60, 1, 1};
        for (int k = 0; k < last.length; k++) {
            Check.due("call 512, " + k, last[k].of(behind511()), due[k]);
        }
    }

    private static ClubSmoke behind511() {
        ClubSmoke x = new ClubSmoke();
        for (int made = 1; made <= 500; made++) {
            Check.due("call " + made, x.at(0, made), Edges.FINDING);
        }
        Check.write(x, 0, "p03v2");
        Check.due("call 507", x.club(0), 1);
        Check.due("call 508", x.talk(0, 99), 9);
        Check.due("call 509", x.keep(0), 1);
        Check.due("call 510", x.undo(0), 1);
        Check.due("call 511", x.on(0), 1);
        return x;
    }

    // ---- what is refused

    @Edges.Doc(promise = 44, says = {"BAD -1 (a number that is none, or not as told), FULL -2, STATE -4 (not now), SPENT -6 (more than told),"
        + " FINDING -3 (finding() tells which)", "NONE -9."})
    static void refusalsByTheirNumbers() {
        Check.due("BAD", ClubSmoke.BAD, -1);
        Check.due("FULL", ClubSmoke.FULL, -2);
        Check.due("FINDING", ClubSmoke.FINDING, -3);
        Check.due("STATE", ClubSmoke.STATE, -4);
        Check.due("SPENT", ClubSmoke.SPENT, -6);
        Check.due("NONE", ClubSmoke.NONE, -9);
        Edges.refused("a number that is none", Edges::busy, x -> x.count(13), -1);
        Edges.refused("a number not as told", Edges::busy, x -> x.talk(0, 100), -1);
        Edges.refused("forty deeds", Edges::fullClub, x -> x.hour(), -2);
        Edges.refused("not now", Edges::shelves, x -> x.hour(), -4);
        Edges.finds("a finding", Edges::busy, x -> x.mark(0, 1), Edges.UNLIKE);
        Check.due("none", Edges.busy().least(3, 1), -9);
    }

    /** The order of 'Terms' is BAD, FULL, STATE, FINDING: these calls put FULL last, club() puts STATE behind NOTHING. */
    @Edges.Doc(promise = 17, says = {"Refused is, the first of these that fits, in this order: BAD -1", "unless a call says so otherwise"})
    static void callsThatSaySoOtherwise() {
        Edges.refused("open(2), none there, forty deeds", Edges::fullClub, x -> x.open(2), Edges.STATE);
        Edges.refused("thunder(), no smoke, forty deeds", Edges::fullWithoutSmoke, x -> x.thunder(), Edges.STATE);
        Edges.refused("talk(6, 0), forty deeds", Edges::fullClub, x -> x.talk(6, 0), Edges.BAD);
        Edges.refused("lots(21, 1), forty deeds", Edges::fullClub, x -> x.lots(21, 1), Edges.BAD);
        Edges.finds("club(3), missing", Edges::busy, x -> x.club(3), Edges.NOTHING);
    }

    @Edges.Doc(promise = 45, says = {"FINDINGS: 1 NOTHING (a ROW, a TEXT, a kept CLUB that is missing), 2 BEYOND (a place of a ROW, a TEXT that there is not),"
        + " 3 UNLIKE (a MEMBER of another KIND; a number that is none), 4 NOUGHT (shared among none; nothing fits),"
        + " 5 SIZE (fewer than none; too many, not as many as due)."})
    static void findingsByTheirNumbers() {
        Edges.finds("a row that is missing", Edges::busy, x -> x.tear(0), 1);
        Edges.finds("a text that is missing", Edges::busy, x -> x.put(3, 0, 0), 1);
        Edges.finds("a kept club that is missing", Edges::busy, x -> x.on(1), 1);
        Edges.finds("a place of a row", Edges::busy, x -> x.at(3, 3), 2);
        Edges.finds("a place of a text", Edges::busy, x -> x.put(1, 4, 0), 2);
        Edges.finds("a member of another kind", Edges::busy, x -> x.mark(0, 5), 3);
        Edges.finds("a number that is none", Edges::busy, x -> x.leaks(3), 3);
        Edges.finds("shared among none", Edges::busy, x -> x.mean(2), 4);
        Edges.finds("nothing fits", Edges::busy, x -> x.sure(0, 1), 4);
        Edges.finds("fewer than none", Edges::busy, x -> x.row(0, -1), 5);
        Edges.finds("too many", () -> with(1, Edges.many(18, 0)), x -> x.who(1), 5);
        Edges.finds("not as many as due", () -> with(1, 0, 0, 0), x -> x.who(1), 5);
    }

    private static ClubSmoke with(int r, int... values) {
        ClubSmoke x = Edges.busy();
        Check.fill(x, r, values);
        return x;
    }

    // ---- how it is told

    @Edges.Doc(promise = 33, says = "Sets (of MEMBERS, of CELLS, of KINDS, of LEAKS) are told by bits.")
    static void setsAreToldByBits() {
        for (int i = 0; i < 6; i++) {
            ClubSmoke x = Check.club("p05 " + "m0".repeat(i) + "f0" + "m0".repeat(5 - i));
            Check.fill(x, 0, 99, 99);
            Check.due("member " + i, x.who(0), 1 << i);
        }
        for (int c = 0; c < 8; c++) {
            ClubSmoke x = Check.club("p08 v" + c);
            x.talk(0, 99);
            Edges.tellsAside("cell " + c, x, y -> y.window(0), 1, 1 << c);
        }
        // What each kind alone says of 47, or with whom it says so.
        int[][] said = {{23, 3}, {40, 4}, {47, 8}, {22, 16}, {7, 32}};
        for (int[] s : said) {
            Check.due("kinds that say " + s[0], with(5, 47, s[0]).kinds(5), s[1]);
        }
        for (int leak = 0; leak <= 9; leak++) {
            Check.due("leak " + leak, with(5, 99, 99 - leak).leaks(5), 1 << leak);
        }
    }

    // ---- clubs

    @Edges.Doc(promise = 1, says = {"======== 1 ROWS 0 .. 5 are rows of 0 to 40 ints", "or missing (at first).", "A CLUB (without MEMBERS at first) is a TEXT: blanks (32) ahead"})
    static void nothingAtFirst() {
        ClubSmoke x = new ClubSmoke();
        for (int what = 0; what <= 12; what++) {
            Check.due("count(" + what + ")", x.count(what), 0);
        }
        for (int r = 0; r <= 5; r++) {
            Check.finds("row " + r, x, x.tear(r), Edges.NOTHING);
        }
        for (int t = 0; t <= 3; t++) {
            Check.finds("text " + t, x, x.fault(t), Edges.NOTHING);
        }
        Check.due("no member", x.member(0, 0), -1);
        Check.due("no cell", x.smoke(0), -1);
        Check.due("no members", x.hour(), -4);
    }

    @Edges.Doc(promise = 10, says = {"it can't go on so (a letter, a figure that is none such, a seventh MEMBER: its place;"
        + " the TEXT's size, if its end comes too early, or there are blanks alone).", "as many as wanted, none within items. First p (112)"})
    static void faultsAtTheirPlaces() {
        int[] due = {0, 1, 2, 3, 4, 5};
        String[] signs = {"q35m0", "px5m0", "p32m0", "p35q0", "p35m5", "p35m00"};
        for (int k = 0; k < signs.length; k++) {
            Check.due("fault '" + signs[k] + "'", Edges.written(0, signs[k]).make().fault(0), due[k]);
        }
        Check.due("an early end", Edges.written(0, "p35m").make().fault(0), 4);
        Check.due("blanks alone", Edges.written(0, "  ").make().fault(0), 2);
        Check.due("the seventh", Edges.written(0, "p35m0m0m0m0m0m0y0").make().fault(0), 15);
    }

    @Edges.Doc(promise = 12, says = {"Then MEMBERS (1 to 6; 0, 1, .. as they come): a letter, the CELL (below as many as there are), one figure.",
        "KINDS of MEMBERS and letters: 0 MEMBER (m, 109), 1 BISHOP (b, 98; a MEMBER)"})
    static void kindsAndLetters() {
        ClubSmoke x = Check.club("p08 m7 b6 y5 f4 a3 v2");
        for (int i = 0; i < 6; i++) {
            int one = i;
            Edges.tells("kind of " + i, x, y -> y.member(one, 0), i);
            Edges.tells("cell of " + i, x, y -> y.member(one, 1), 7 - i);
        }
    }

    // ---- what is meant, said, breathed

    private interface Meant {
        long of(ClubSmoke x, int v);
    }

    @Edges.Doc(promise = 15, says = "What is MEANT is 0 .. 99.")
    static void whatIsMeantIsNoughtToNinetyNine() {
        Meant[] calls = {(x, v) -> x.talk(0, v), (x, v) -> x.says(0, v), (x, v) -> x.breathes(0, v), (x, v) -> x.talks(v, 0, 0, 0),
            (x, v) -> x.sets(v, 0), (x, v) -> x.sure(v, 0), (x, v) -> x.ask(v, 0), (x, v) -> x.evening(v, 2)};
        for (int k = 0; k < calls.length; k++) {
            Meant call = calls[k];
            Edges.range("call " + k, Edges::busy, 0, 99, (x, v) -> call.of(x, v));
        }
        for (int v : new int[] {MIN, -1, 100, MAX}) {
            Edges.finds("meant " + v, () -> with(5, v, 0), x -> x.who(5), Edges.UNLIKE);
            Edges.finds("said " + v, () -> with(5, 0, v), x -> x.who(5), Edges.UNLIKE);
        }
    }

    @Edges.Doc(promise = 23, says = {"One BREATHES the rest.", "What is BREATHED comes to the SMOKE of the own CELL; of a BISHOP (ADMIRAL, too) in rings: half of it (cut) there,"
        + " of the rest half (cut) to the CELL behind (behind the last one comes 0), what is left to the one ahead."})
    static void whatIsBreathedHangs() {
        for (int i = 0; i < 6; i++) {
            for (int v = 0; v <= 99; v++) {
                ClubSmoke x = Check.club(Edges.SIX);
                x.member(i, 1);
                int own = x.asked();
                boolean inRings = i == 1 || i == 4;
                int breathed = x.breathes(i, v);
                Check.due("said and breathed of " + v + " by " + i, x.talk(i, v) + breathed, v);
                Check.due("in all", x.count(4), breathed);
                Check.due("in the own cell", x.smoke(own), inRings ? breathed / 2 : breathed);
                int behind = inRings ? (breathed - breathed / 2) / 2 : 0;
                Check.due("behind", x.smoke((own + 1) % 5), behind);
                Check.due("ahead", x.smoke((own + 4) % 5), inRings ? breathed - breathed / 2 - behind : 0);
            }
        }
    }

    // ---- deeds

    @Edges.Doc(promise = 15, says = {"======== 2 HOUR 0 is at first, no SMOKE hangs, nothing was HEARD.",
        "One TALKS: what is MEANT is SAID and BREATHED (SMOKE of a CELL 999 at most: more is lost)."
        + " An HOUR: SMOKE of each CELL is less by the LEAK (0 at least), then the HOUR is 1 more. A WINDOW is let open: a CELL has no SMOKE."
        + " THUNDER: all SMOKE comes down; HEARD is so much more."})
    static void oneOfEachDeed() {
        // Behind each deed: the hour, all smoke, heard, said.
        ClubSmoke x = Check.club("p93 v0 v1 y2");
        countsDue("at first", x, 0, 0, 0, 0);
        x.talk(0, 99);
        countsDue("talk", x, 0, 90, 0, 9);
        x.talk(1, 15);
        countsDue("talk", x, 0, 100, 0, 14);
        x.talk(2, 18);
        countsDue("talk", x, 0, 108, 0, 24);
        Check.due("9 of 90, 9 of 10, all of 8", x.hour(), 26);
        countsDue("hour", x, 1, 82, 0, 24);
        Check.due("the window", x.open(0), 81);
        countsDue("window", x, 1, 1, 0, 24);
        Check.due("the thunder", x.thunder(), 1);
        countsDue("thunder", x, 1, 0, 1, 24);
        Check.due("an hour without smoke", x.hour(), 0);
        countsDue("hour", x, 2, 0, 1, 24);
        x.talk(0, 70);
        Check.due("so much more", x.thunder(), 71);
        Check.due("deeds", x.count(3), 9);
    }

    private static void countsDue(String behind, ClubSmoke x, int hour, int all, int heard, int said) {
        Check.due(behind + ", the hour", x.count(2), hour);
        Check.due(behind + ", all smoke", x.count(4), all);
        Check.due(behind + ", heard", x.count(5), heard);
        Check.due(behind + ", said", x.count(6), said);
    }

    @Edges.Doc(promise = 40, says = "======== 3 LOTS: a number comes from the one ahead by 48271 times it modulo 2147483647, the first from a seed (1 .. 2147483646).")
    static void lotsOfTheFirstAndTheLastSeed() {
        // 48271 of seed 1: by 8 6033, modulo 8 1, cell 48271 % 3 = 1; of the last one 2147435376: by 8 268429422, modulo 8 6,
        // the only member, by 64 33553677, modulo 100 77.
        ClubSmoke x = Check.club("p03 v1");
        x.talk(0, 50);
        Check.due("seed 1 opens cell 1", x.lots(1, 1), 0);
        Check.due("nothing is heard", x.count(5), 0);
        Check.due("the last seed lets 77 be meant", x.lots(1, 2147483646), 70);
        Check.due("said", x.count(6), 7);
    }

    // ---- the lines ahead of the calls

    private static final Edges.Call[] ASIDE = {x -> x.says(0, 47), x -> x.breathes(0, 47), x -> x.means(0, 23), x -> x.least(0, 23),
        x -> x.hangs(1, 9), x -> x.clear(), x -> x.window(9), x -> x.sets(47, 24), x -> x.sure(47, 24), x -> x.ask(47, 24),
        x -> x.who(1), x -> x.kinds(1), x -> x.test(1), x -> x.leaks(1), x -> x.evening(99, 2), x -> x.odds(9, 6, 5),
        x -> x.mid(6, 5), x -> x.asked(), x -> x.upper(), x -> x.lower(), x -> x.count(4), x -> x.finding(), x -> x.findings(1),
        x -> x.at(1, 0), x -> x.mean(1), x -> x.fault(0), x -> x.member(0, 2), x -> x.mark(1, 1), x -> x.smoke(0)};

    /** A question is answered twice alike and leaves all that the digest tells of; deeds and kept clubs are looked at, too. */
    @Edges.Doc(promise = 22, says = {"Ahead of the calls `says`, `breathes`, `means`, `least` the interface says: ---- 3 what is said, breathed (aside).",
        "Ahead of the calls `hangs`, `clear`, `window`, `talks` the interface says: ---- 4 what hangs.",
        "Ahead of the calls `who`, `kinds`, `test`, `leaks` the interface says: ---- 6 by notes (a ROW of pairs",
        "Ahead of the calls `evening` the interface says: ---- 7 by turns.",
        "Ahead of the calls `asked`, `upper`, `lower`, `count`, `finding`, `findings`, `digest` the interface says: ---- 9 what is told."})
    static void questionsAreNoDeeds() {
        for (int k = 0; k < ASIDE.length; k++) {
            ClubSmoke x = Edges.busy();
            ClubSmoke twin = Edges.busy();
            long first = ASIDE[k].of(x);
            Check.holds("question " + k + " is not refused", first >= 0 || first == Edges.NONE);
            Check.due("question " + k + " again", ASIDE[k].of(x), first);
            Check.due("question " + k + ", findings", x.findings(2), twin.findings(2));
            sameClubs("question " + k, x, twin);
        }
        ClubSmoke x = Edges.busy();
        ClubSmoke twin = Edges.busy();
        Check.due("talks(99, 1, 9, 4)", x.talks(99, 1, 9, 4), 0);
        Check.due("its row", x.tear(4), 1);
        sameClubs("talks(99, 1, 9, 4)", x, twin);
    }

    private static void sameClubs(String what, ClubSmoke x, ClubSmoke twin) {
        Check.due(what + ", digest", x.digest(), twin.digest());
        for (int n = twin.count(3) - 1; n >= 0; n--) {
            Check.due(what + ", undo(" + n + ")", x.undo(n), twin.undo(n));
            Check.due(what + ", digest behind " + n, x.digest(), twin.digest());
        }
        for (int k = 0; k <= 2; k++) {
            Check.due(what + ", on(" + k + ")", x.on(k), twin.on(k));
            Check.due(what + ", digest of kept " + k, x.digest(), twin.digest());
        }
    }

    /** What lies in rows and texts is no part of the club: that is read once, by club(). */
    @Edges.Doc(promise = 11, says = "Ahead of the calls `row`, `lay`, `at`, `tear`, `copy`, `mean`, `text`, `put`, `fault`, `club`, `member`, `mark`, `smoke`"
        + " the interface says: ---- 1 rows, texts, clubs.")
    static void rowsTextsAndClubsAreApart() {
        ClubSmoke x = Edges.busy();
        x.text(0, 0);
        x.row(1, 0);
        Check.due("members", x.count(0), 6);
        Check.due("smoke", x.count(4), Edges.busy().count(4));
        Check.due("deeds", x.count(3), 8);
        x.undo(1);
        Check.due("the first deed", x.count(4), 50);
        Check.due("on(2)", x.on(2), 4);
        Check.due("a row is no text", x.row(3, 2), 2);
        Check.due("text 3 is missing", x.fault(3), Edges.FINDING);
    }

    @Edges.Doc(promise = 19, says = {"Ahead of the calls `talk`, `hour`, `open`, `thunder`, `undo`, `keep`, `on` the interface says: ---- 2 deeds.",
        "These are DEEDS 0, 1, .. (40 at most)."})
    static void whatIsADeedAndWhatIsNot() {
        ClubSmoke x = Check.club(Edges.SIX);
        Edges.Call[] calls = {y -> y.talk(5, 99), y -> y.keep(0), y -> y.hour(), y -> y.open(1), y -> y.talk(0, 9), y -> y.thunder(),
            y -> y.keep(1), y -> y.undo(3), y -> y.on(1), y -> y.on(0)};
        int[] deeds = {1, 1, 2, 3, 4, 5, 5, 3, 5, 1};
        for (int k = 0; k < calls.length; k++) {
            Check.holds("call " + k, calls[k].of(x) >= 0);
            Check.due("deeds behind call " + k, x.count(3), deeds[k]);
        }
    }

    /** Six alike: of 99 each breathes 90, so that no set breathes more than 540, and each sum is one of 0, 90, .. 540. */
    @Edges.Doc(promise = 30, says = "Ahead of the calls `sets`, `sure`, `ask` the interface says: ---- 5 by whom (v (0 .. 99) being MEANT by each of a set, once).")
    static void eachOfASetOnce() {
        ClubSmoke x = Check.club("p03 v0 v0 v0 v1 v1 v2");
        int[] sets = {1, 6, 15, 20, 15, 6, 1};
        for (int b = 0; b <= 594; b++) {
            Check.due("sets(99, " + b + ")", x.sets(99, b), 1);
            Check.due("upper()", x.upper(), b % 90 == 0 ? sets[b / 90] : 0);
            Check.due("lower()", x.lower(), 1);
        }
        Check.due("all six, surely", x.sure(99, 540), 63);
        Check.due("none, surely", x.sure(99, 0), 0);
        Check.due("in none", x.asked(), 63);
    }

    @Edges.Doc(promise = 36, says = {"---- 6 by notes (a ROW of pairs, 0 to 8: what was MEANT 0 .. 99, what was SAID 0 .. 99: NOTHING; SIZE; UNLIKE; behind BAD).",
        "SIZE: an empty ROW"})
    static void notesAndHours() {
        Edges.Given[] notes = {(x, r) -> x.who(r), (x, r) -> x.kinds(r), (x, r) -> x.test(r)};
        for (int n = 0; n <= 40; n++) {
            int size = n;
            for (Edges.Given call : notes) {
                if (n % 2 == 0 && n <= 16) {
                    Check.holds("notes of " + n, call.of(with(5, Edges.many(n, 0)), 5) >= 0);
                } else {
                    Edges.finds("notes of " + n, () -> with(5, Edges.many(size, 0)), x -> call.of(x, 5), Edges.SIZE);
                }
            }
            if (n > 0) {
                Check.due("hours of " + n, with(5, Edges.many(n, 0)).leaks(5), 1023);
            }
        }
        Edges.finds("no hours", () -> with(5), x -> x.leaks(5), Edges.SIZE);
    }

    @Edges.Doc(promise = 38, says = "Ahead of the calls `odds`, `mid`, `lots` the interface says: ---- 8 chances, lots.")
    static void chancesAreNoDeedsLotsAre() {
        ClubSmoke x = Check.club(Edges.SIX);
        x.odds(0, 6, 12);
        x.mid(6, 12);
        Check.due("deeds behind chances", x.count(3), 0);
        x.lots(20, 9);
        Check.due("deeds behind lots", x.count(3), 20);
        Check.due("undone", x.undo(0), 20);
        Check.due("upper stays", x.upper(), 0);
    }
}
