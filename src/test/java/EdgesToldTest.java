import java.io.IOException;
import java.math.BigInteger;
import java.util.ArrayList;
import java.util.Arrays;
import java.util.List;

/** Boundaries of promises 41 to 47: what is told. */
final class EdgesToldTest {
    private static final int MIN = Edges.MIN, MAX = Edges.MAX;

    private EdgesToldTest() {
    }

    public static void main(String[] args) throws ReflectiveOperationException, IOException {
        Edges.run(EdgesToldTest.class);
    }

    // ---- 41 asked

    @Edges.Doc(promise = 41, says = {"What the latest lay(), at(), mean(), member(), means(), window(), sets(), sure(), ask(), test()", "0 before."})
    static void askedBeforeAnyIsNought() {
        Check.due("new", new ClubSmoke().asked(), 0);
        ClubSmoke x = new ClubSmoke();
        x.at(0, 0);
        x.mean(0);
        x.member(0, 0);
        x.means(0, 0);
        x.window(0);
        x.sets(0, 0);
        x.sure(0, 0);
        x.ask(0, 0);
        x.test(0);
        Check.due("all refused", x.asked(), 0);
    }

    @Edges.Doc(promise = 41, says = "What the latest lay(), at(), mean(), member(), means(), window(), sets(), sure(), ask(), test()")
    static void askedOfLeastAndGreatestInts() {
        ClubSmoke x = Edges.row(0, MIN, MAX).make();
        Edges.tells("at(0, 0)", x, y -> y.at(0, 0), MIN);
        Edges.tells("at(0, 1)", x, y -> y.at(0, 1), MAX);
        Edges.tells("lay(0, 0, 0)", x, y -> y.lay(0, 0, 0), MIN);
        Edges.tells("lay(0, 1, 0)", x, y -> y.lay(0, 1, 0), MAX);
        Edges.tells("lay(0, 1, 7)", x, y -> y.lay(0, 1, 7), 0);
    }

    /** Each call of the ten, refused, behind one that told 77. */
    @Edges.Doc(promise = 41, says = "that was not refused (nor NONE) told")
    static void askedStaysByRefusedCalls() {
        Edges.State told = () -> {
            ClubSmoke x = Edges.busy();
            Check.fill(x, 5, 77, 0, 1, 9);
            x.at(5, 0);
            return x;
        };
        Edges.Call[] refused = {x -> x.lay(6, 0, 1), x -> x.lay(0, 0, 1), x -> x.lay(5, 4, 1), x -> x.at(-1, 0), x -> x.at(0, 0),
            x -> x.at(5, -1), x -> x.mean(6), x -> x.mean(0), x -> x.mean(2), x -> x.member(6, 0), x -> x.member(0, 4),
            x -> x.means(6, 0), x -> x.means(0, 100), x -> x.window(-1), x -> x.window(7993), x -> x.sets(100, 0),
            x -> x.sets(0, 595), x -> x.sure(100, 0), x -> x.sure(0, 1), x -> x.ask(0, 595), x -> x.ask(0, 1), x -> x.test(6),
            x -> x.test(0), x -> x.test(3), x -> x.test(5)};
        for (int k = 0; k < refused.length; k++) {
            ClubSmoke x = told.make();
            Check.holds("refused or NONE, " + k, refused[k].of(x) < 0);
            Check.due("asked behind " + k, x.asked(), 77);
        }
    }

    @Edges.Doc(promise = 41, says = {"the least by asked() (NONE)", "the first by asked() (bits; NONE): 1."})
    static void askedIsNoneByMeansAndSets() {
        ClubSmoke x = Edges.busy();
        Edges.tellsAside("means(3, 0)", x, y -> y.means(3, 0), 1, 0);
        Edges.tellsAside("means(0, 99)", x, y -> y.means(0, 99), 0, Edges.NONE);
        Edges.tellsAside("sets(0, 0)", x, y -> y.sets(0, 0), 1, 0);
        Edges.tellsAside("sets(0, 1)", x, y -> y.sets(0, 1), 1, Edges.NONE);
    }

    // ---- 42 upper, 43 lower

    @Edges.Doc(promise = 42, says = "The upper number that was told last; 0 before.")
    static void upperBeforeAnyIsNought() {
        Check.due("new", new ClubSmoke().upper(), 0);
        ClubSmoke x = Edges.shelves();
        x.sets(0, 0);
        x.odds(0, 0, 0);
        x.mid(0, 0);
        Check.due("all refused", x.upper(), 0);
    }

    @Edges.Doc(promise = 43, says = "Its lower number; 1 before.")
    static void lowerBeforeAnyIsOne() {
        Check.due("new", new ClubSmoke().lower(), 1);
        ClubSmoke x = Edges.shelves();
        x.sets(0, 0);
        x.odds(0, 0, 0);
        x.mid(0, 0);
        Check.due("all refused", x.lower(), 1);
    }

    private static ClubSmoke fiveTwelfths() {
        ClubSmoke x = Check.club(Edges.SIX);
        x.talk(0, 80);
        Edges.tellsBy("odds(40, 1, 5)", x, y -> y.odds(40, 1, 5), 5, 12);
        return x;
    }

    @Edges.Doc(promise = 42, says = {"The upper number that was told last", "What is refused changes nothing but finding(), findings()."})
    static void upperAndLowerStayByOthers() {
        Edges.Call[] calls = {x -> x.sets(100, 0), x -> x.sets(0, 595), x -> x.odds(-1, 0, 0), x -> x.odds(0, 7, 0),
            x -> x.odds(0, 0, 13), x -> x.mid(7, 0), x -> x.mid(0, -1), x -> x.sure(47, 24), x -> x.ask(47, 24), x -> x.sure(0, 1),
            x -> x.window(0), x -> x.evening(47, 2), x -> x.lots(20, 1), x -> x.club(0), x -> x.undo(0), x -> x.digest()};
        for (int k = 0; k < calls.length; k++) {
            ClubSmoke x = fiveTwelfths();
            calls[k].of(x);
            Check.due("upper behind " + k, x.upper(), 5);
            Check.due("lower behind " + k, x.lower(), 12);
        }
    }

    @Edges.Doc(promise = 43, says = {"Its lower number", "in lowest terms, the lower number above 0 (0 by 1)"})
    static void lowerIsOneByNought() {
        ClubSmoke x = fiveTwelfths();
        Edges.tellsBy("odds(41, 6, 5)", x, y -> y.odds(41, 6, 5), 0, 1);
        ClubSmoke y = fiveTwelfths();
        Edges.tellsBy("sets(0, 1)", y, z -> z.sets(0, 1), 0, 1);
        ClubSmoke none = Check.club(Edges.SIX);
        Edges.tellsBy("mid(6, 5)", none, z -> z.mid(6, 5), 0, 1);
    }

    // ---- 44 count

    @Edges.Doc(promise = 44, says = "12 kept CLUBS. BAD.")
    static void countOfNoNumberIsBad() {
        Edges.range("count(what)", Edges::busy, 0, 12, (x, what) -> x.count(what));
        Edges.range("count(what), new", ClubSmoke::new, 0, 12, (x, what) -> x.count(what));
    }

    private static void countDue(ClubSmoke x, int... due) {
        for (int what = 0; what <= 12; what++) {
            Check.due("count(" + what + ")", x.count(what), due[what]);
        }
    }

    @Edges.Doc(promise = 44, says = "0 MEMBERS, 1 CELLS, 2 the HOUR, 3 DEEDS, 4 all SMOKE, 5 HEARD, 6 what was SAID in all, 7 the LEAK")
    static void countsOfNoneAndMost() {
        countDue(new ClubSmoke(), new int[13]);
        countDue(Check.club("p03 m0"), 1, 3, 0, 0, 0, 0, 0, 0, 0, 0, 0, 1, 0);
        ClubSmoke said = Check.club("p98 f0");
        Edges.talks(said, 40, 0, 99);
        countDue(said, 1, 8, 0, 40, 0, 0, 3960, 9, 0, 0, 0, 1, 0);
        ClubSmoke smoke = Check.club("p08 v0 v1 v2 v3 v4 v5");
        for (int k = 0; k < 40; k++) {
            smoke.talk(k % 6, 99);
        }
        countDue(smoke, 6, 8, 0, 40, 3600, 0, 360, 0, 0, 6, 0, 1, 0);
        smoke.undo(39);
        smoke.thunder();
        countDue(smoke, 6, 8, 0, 40, 0, 3510, 351, 0, 0, 6, 0, 1, 0);
        ClubSmoke hours = Check.club("p98 m0");
        Edges.hours(hours, 40);
        countDue(hours, 1, 8, 40, 40, 0, 0, 0, 9, 0, 0, 0, 1, 0);
    }

    @Edges.Doc(promise = 44, says = "8 BISHOPS (ADMIRALS, too), 9 YOUNG ones (VICARS, too)")
    static void countsOfKinds() {
        String[] clubs = {"m0f0", "b0a0b0a0b0a0", "y0v0y0v0y0v0", "b0y0", "a0v0", "m0b0y0f0a0v0"};
        int[][] due = {{0, 0}, {6, 0}, {0, 6}, {1, 1}, {1, 1}, {2, 2}};
        for (int k = 0; k < clubs.length; k++) {
            ClubSmoke x = Check.club("p03" + clubs[k]);
            Check.due("bishops of " + clubs[k], x.count(8), due[k][0]);
            Check.due("young ones of " + clubs[k], x.count(9), due[k][1]);
        }
    }

    @Edges.Doc(promise = 44, says = "10 ROWS, 11 TEXTS that are there, 12 kept CLUBS")
    static void countsOfRowsTextsAndKeptClubs() {
        ClubSmoke x = Check.club("p03 m0");
        for (int r = 0; r <= 5; r++) {
            x.row(r, r == 3 ? 0 : 40);
            Check.due("rows", x.count(10), r + 1);
        }
        for (int t = 1; t <= 3; t++) {
            x.text(t, t == 3 ? 0 : 60);
            Check.due("texts", x.count(11), t + 1);
        }
        for (int k = 0; k <= 2; k++) {
            x.keep(k);
            Check.due("kept", x.count(12), k + 1);
        }
        for (int r = 5; r >= 0; r--) {
            x.tear(r);
            Check.due("rows", x.count(10), r);
        }
    }

    // ---- 45 finding, 46 findings

    private static final Edges.Call[] FINDING = {x -> x.at(0, 0), x -> x.at(3, 3), x -> x.mark(0, 1), x -> x.mean(2), x -> x.row(3, -1)};

    @Edges.Doc(promise = 45, says = "The latest FINDING (0 before any).")
    static void findingBeforeAnyIsNought() {
        Check.due("new", new ClubSmoke().finding(), 0);
        ClubSmoke x = new ClubSmoke();
        x.row(6, 0);
        x.hour();
        x.findings(6);
        Check.due("none yet", x.finding(), 0);
    }

    @Edges.Doc(promise = 45, says = {"The latest FINDING (0 before any).",
        "1 NOTHING (a ROW, a TEXT, a kept CLUB that is missing), 2 BEYOND (a place of a ROW, a TEXT that there is not), 3 UNLIKE"})
    static void findingIsTheLatest() {
        for (int first = 1; first <= 5; first++) {
            for (int then = 1; then <= 5; then++) {
                ClubSmoke x = Edges.busy();
                Check.finds("first " + first, x, FINDING[first - 1].of(x), first);
                Check.finds("then " + then, x, FINDING[then - 1].of(x), then);
                x.asked();
                x.row(6, 0);
                x.at(3, 0);
                x.club(0);
                Check.due("stays", x.finding(), then);
            }
        }
    }

    @Edges.Doc(promise = 46, says = "How often a FINDING (1 .. 5) was answered. BAD.")
    static void findingsOfNoNumberIsBad() {
        Edges.range("findings(f)", Edges::busy, 1, 5, (x, f) -> x.findings(f));
        Edges.range("findings(f), new", ClubSmoke::new, 1, 5, (x, f) -> x.findings(f));
    }

    @Edges.Doc(promise = 46, says = "How often a FINDING (1 .. 5) was answered.")
    static void findingsAreCountedApart() {
        for (int f = 1; f <= 5; f++) {
            Check.due("new", new ClubSmoke().findings(f), 0);
            ClubSmoke x = Edges.busy();
            int[] before = new int[6];
            for (int g = 1; g <= 5; g++) {
                before[g] = x.findings(g);
            }
            for (int k = 0; k < 300; k++) {
                FINDING[f - 1].of(x);
            }
            for (int g = 1; g <= 5; g++) {
                Check.due("findings(" + g + ") behind 300 of " + f, x.findings(g) - before[g], g == f ? 300 : 0);
            }
        }
    }

    @Edges.Doc(promise = 46, says = "How often a FINDING (1 .. 5) was answered.")
    static void otherRefusalsAreNoFindings() {
        Edges.refused("BAD", Edges::busy, x -> x.row(6, 0), Edges.BAD);
        Edges.refused("FULL", Edges::fullClub, x -> x.hour(), Edges.FULL);
        Edges.refused("STATE", Edges::busy, x -> x.club(1), Edges.STATE);
        Edges.refused("NONE", Edges::busy, x -> x.least(3, 9), Edges.NONE);
    }

    // ---- 47 digest

    private static void mixes(String what, ClubSmoke x, List<Integer> told) {
        BigInteger h = BigInteger.valueOf(17);
        for (int v : told) {
            h = h.multiply(BigInteger.valueOf(31)).add(BigInteger.valueOf(v));
        }
        Check.due(what, x.digest(), h.longValue());
    }

    private static List<Integer> ints(int... values) {
        List<Integer> list = new ArrayList<>();
        Arrays.stream(values).forEach(list::add);
        return list;
    }

    @Edges.Doc(promise = 47, says = {"h = 17; then h = 31 h + v for each v", "of each kept CLUB how many DEEDS (-1: missing)",
        "of each ROW its size (-1: missing) and places, of each TEXT likewise."})
    static void digestOfANewObject() {
        List<Integer> told = ints(new int[13]);
        told.addAll(ints(Edges.many(13, -1)));
        mixes("new", new ClubSmoke(), told);
    }

    @Edges.Doc(promise = 47, says = "of each ROW its size (-1: missing) and places, of each TEXT likewise.")
    static void digestOfEmptyRowsAndTexts() {
        ClubSmoke x = new ClubSmoke();
        for (int r = 0; r <= 5; r++) {
            x.row(r, 0);
        }
        for (int t = 0; t <= 3; t++) {
            x.text(t, 0);
        }
        List<Integer> told = ints(0, 0, 0, 0, 0, 0, 0, 0, 0, 0, 6, 4, 0, -1, -1, -1);
        told.addAll(ints(new int[10]));
        mixes("empty", x, told);
    }

    /** Long goes around many times; places are ints with a sign, bytes too. */
    @Edges.Doc(promise = 47, says = "h = 17; then h = 31 h + v for each v")
    static void digestOfFullRowsAndTextsWrapsAround() {
        ClubSmoke x = new ClubSmoke();
        List<Integer> told = ints(0, 0, 0, 0, 0, 0, 0, 0, 0, 0, 6, 4, 0, -1, -1, -1);
        int[] fill = {MIN, MAX, -1, 1, MIN + 1, MAX - 1};
        for (int r = 0; r <= 5; r++) {
            x.row(r, 40);
            told.add(40);
            for (int i = 0; i < 40; i++) {
                if (i % 3 != 0) {
                    x.lay(r, i, fill[r]);
                }
                told.add(i % 3 != 0 ? fill[r] : 0);
            }
        }
        int[] bytes = {-128, 127, -1, 0};
        for (int t = 0; t <= 3; t++) {
            x.text(t, 60);
            told.add(60);
            for (int i = 0; i < 60; i++) {
                if (i % 20 == 0) {
                    x.put(t, i, bytes[t]);
                }
                told.add(i % 20 == 0 ? bytes[t] : 32);
            }
        }
        mixes("full", x, told);
    }

    @Edges.Doc(promise = 47, says = {"count() 0 to 12; smoke() of each CELL; of each MEMBER member() 0 to 3", "of each kept CLUB how many DEEDS (-1: missing)"})
    static void digestOfLeastAndGreatestClub() {
        ClubSmoke least = Check.club("p03m2");
        List<Integer> told = ints(1, 3, 0, 0, 0, 0, 0, 0, 0, 0, 0, 1, 0, 0, 0, 0, 0, 2, 0, 0, -1, -1, -1);
        told.addAll(ints(Edges.many(6, -1)));
        told.addAll(ints(5, 'p', '0', '3', 'm', '2', -1, -1, -1));
        mixes("least", least, told);
        ClubSmoke most = Check.club("p98v7m0b1y2f3a4");
        most.keep(0);
        Edges.talks(most, 40, 0, 99);
        most.keep(2);
        told = ints(6, 8, 0, 40, 999, 0, 360, 9, 2, 2, 0, 1, 2, 0, 0, 0, 0, 0, 0, 0, 999);
        told.addAll(ints(5, 7, 999, 40, 0, 0, 0, 0, 1, 1, 0, 0, 2, 2, 0, 0, 3, 3, 0, 0, 4, 4, 0, 0, 0, -1, 40));
        told.addAll(ints(Edges.many(6, -1)));
        told.addAll(ints(15, 'p', '9', '8', 'v', '7', 'm', '0', 'b', '1', 'y', '2', 'f', '3', 'a', '4', -1, -1, -1));
        mixes("most", most, told);
    }

    @Edges.Doc(promise = 47, says = "of each MEMBER member() 0 to 3")
    static void digestTellsNothingByAsked() {
        ClubSmoke x = Edges.busy();
        int asked = x.asked();
        long first = x.digest();
        Check.due("again", x.digest(), first);
        Check.due("asked", x.asked(), asked);
        Check.due("finding", x.finding(), Edges.busy().finding());
    }
}
