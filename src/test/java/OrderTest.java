import java.io.IOException;

/** Where two refusals hold at once, the one is answered that the document puts first, and nothing is changed. */
final class OrderTest {
    private static final int MIN = Edges.MIN, MAX = Edges.MAX;

    private OrderTest() {
    }

    public static void main(String[] args) throws ReflectiveOperationException, IOException {
        Edges.run(OrderTest.class);
    }

    private static void bad(String what, Edges.State state, Edges.Call call) {
        Edges.refused(what, state, call, Edges.BAD);
    }

    @Edges.Doc(promise = 2, says = "Refused is, the first of these that fits, in this order: BAD -1")
    static void rowBadAheadOfSize() {
        bad("row(6, -1)", Edges::busy, x -> x.row(6, -1));
        bad("row(-1, MIN)", Edges::busy, x -> x.row(-1, MIN));
        bad("row(6, 41)", Edges::busy, x -> x.row(6, 41));
    }

    @Edges.Doc(promise = 3, says = "BAD; NOTHING; BEYOND.")
    static void layInItsOrder() {
        bad("BAD ahead of BEYOND", Edges::busy, x -> x.lay(6, -1, 1));
        bad("BAD ahead of BEYOND", Edges::busy, x -> x.lay(-1, MAX, 1));
        Edges.finds("NOTHING ahead of BEYOND", Edges::busy, x -> x.lay(0, -1, 1), Edges.NOTHING);
        Edges.finds("NOTHING ahead of BEYOND", Edges::busy, x -> x.lay(4, MAX, 1), Edges.NOTHING);
    }

    @Edges.Doc(promise = 4, says = "BAD; NOTHING; BEYOND.")
    static void atInItsOrder() {
        bad("BAD ahead of BEYOND", Edges::busy, x -> x.at(6, -1));
        bad("BAD ahead of BEYOND", Edges::busy, x -> x.at(-1, MAX));
        Edges.finds("NOTHING ahead of BEYOND", Edges::busy, x -> x.at(0, -1), Edges.NOTHING);
        Edges.finds("NOTHING ahead of BEYOND", Edges::busy, x -> x.at(4, MAX), Edges.NOTHING);
    }

    @Edges.Doc(promise = 6, says = "BAD; SIZE: n below 0; NOTHING: either; BEYOND: not so many there.")
    static void copyBadAheadOfAll() {
        bad("of SIZE", Edges::busy, x -> x.copy(6, 0, 3, 0, -1));
        bad("of SIZE", Edges::busy, x -> x.copy(3, 0, -1, 0, MIN));
        bad("of NOTHING", Edges::busy, x -> x.copy(6, 0, 4, 0, 1));
        bad("of NOTHING", Edges::busy, x -> x.copy(4, 0, 6, 0, 1));
        bad("of BEYOND", Edges::busy, x -> x.copy(6, 0, 3, 3, 1));
        bad("of BEYOND", Edges::busy, x -> x.copy(3, 3, 6, 0, 1));
        bad("of all", Edges::busy, x -> x.copy(4, -1, MAX, -1, -1));
    }

    @Edges.Doc(promise = 6, says = "BAD; SIZE: n below 0; NOTHING: either; BEYOND: not so many there.")
    static void copySizeAheadOfNothingAndBeyond() {
        Edges.finds("of NOTHING", Edges::busy, x -> x.copy(4, 0, 3, 0, -1), Edges.SIZE);
        Edges.finds("of NOTHING", Edges::busy, x -> x.copy(3, 0, 4, 0, MIN), Edges.SIZE);
        Edges.finds("of BEYOND", Edges::busy, x -> x.copy(3, 9, 3, 0, -1), Edges.SIZE);
        Edges.finds("of BEYOND", Edges::busy, x -> x.copy(3, 0, 3, -9, MIN), Edges.SIZE);
        Edges.finds("of both", Edges::busy, x -> x.copy(4, -1, 0, MAX, -1), Edges.SIZE);
    }

    @Edges.Doc(promise = 6, says = "NOTHING: either; BEYOND: not so many there.")
    static void copyNothingAheadOfBeyond() {
        Edges.finds("from", Edges::busy, x -> x.copy(4, 0, 3, 3, 1), Edges.NOTHING);
        Edges.finds("to", Edges::busy, x -> x.copy(3, 3, 4, 0, 1), Edges.NOTHING);
        Edges.finds("both", Edges::busy, x -> x.copy(4, -1, 0, MAX, MAX), Edges.NOTHING);
    }

    @Edges.Doc(promise = 8, says = "Refused is, the first of these that fits, in this order: BAD -1")
    static void textBadAheadOfSize() {
        bad("text(4, -1)", Edges::busy, x -> x.text(4, -1));
        bad("text(-1, MIN)", Edges::busy, x -> x.text(-1, MIN));
        bad("text(4, 61)", Edges::busy, x -> x.text(4, 61));
    }

    @Edges.Doc(promise = 9, says = "BAD; NOTHING; BEYOND.")
    static void putInItsOrder() {
        bad("BAD ahead of BEYOND", Edges::busy, x -> x.put(4, -1, 1));
        bad("BAD ahead of BEYOND", Edges::busy, x -> x.put(-1, MAX, 1));
        Edges.finds("NOTHING ahead of BEYOND", Edges::busy, x -> x.put(3, -1, 1), Edges.NOTHING);
        Edges.finds("NOTHING ahead of BEYOND", Edges::busy, x -> x.put(3, MAX, 1), Edges.NOTHING);
    }

    @Edges.Doc(promise = 11, says = "BAD; NOTHING; STATE: a FAULT. (STATE behind NOTHING.)")
    static void clubNothingAheadOfState() {
        // A missing text has no signs, so that it would be a fault, too.
        Edges.finds("club(3)", Edges::busy, x -> x.club(3), Edges.NOTHING);
        bad("club(4)", Edges::busy, x -> x.club(4));
    }

    @Edges.Doc(promise = 12, says = "told by asked(): 1. BAD.")
    static void memberBadTwice() {
        bad("member(6, 4)", Edges::busy, x -> x.member(6, 4));
        bad("member(-1, -1)", Edges::shelves, x -> x.member(-1, -1));
    }

    @Edges.Doc(promise = 13, says = "BAD: also KIND 0; UNLIKE.")
    static void markBadAheadOfUnlike() {
        bad("no kind, unlike each", Edges::busy, x -> x.mark(0, 6));
        bad("no kind, unlike each", Edges::busy, x -> x.mark(3, -1));
        bad("no member, so unlike", Edges::busy, x -> x.mark(6, 3));
        bad("no member, no kind", Edges::busy, x -> x.mark(6, 0));
    }

    @Edges.Doc(promise = 15, says = "BAD; FULL: 40 DEEDS. (FULL last.)")
    static void talkBadAheadOfFull() {
        bad("no member", Edges::fullClub, x -> x.talk(6, 9));
        bad("no meaning", Edges::fullClub, x -> x.talk(0, 100));
        bad("no meaning", Edges::fullClub, x -> x.talk(0, -1));
        bad("neither", Edges::fullClub, x -> x.talk(-1, MAX));
    }

    @Edges.Doc(promise = 17, says = "BAD; STATE: none; FULL. (FULL last.)")
    static void openInItsOrder() {
        bad("BAD ahead of STATE", Edges.club("p03m0"), x -> x.open(3));
        bad("BAD ahead of STATE, no members", Edges::shelves, x -> x.open(0));
        bad("BAD ahead of FULL", Edges::fullClub, x -> x.open(5));
        bad("BAD ahead of both", Edges::fullWithoutSmoke, x -> x.open(-1));
        Edges.refused("STATE ahead of FULL", Edges::fullClub, x -> x.open(2), Edges.STATE);
        Edges.refused("STATE ahead of FULL", Edges::fullWithoutSmoke, x -> x.open(0), Edges.STATE);
    }

    @Edges.Doc(promise = 18, says = "STATE: no SMOKE (no MEMBERS); FULL. (FULL last.)")
    static void thunderStateAheadOfFull() {
        Edges.refused("thunder()", Edges::fullWithoutSmoke, x -> x.thunder(), Edges.STATE);
    }

    @Edges.Doc(promise = 20, says = "BAD; STATE: no MEMBERS.")
    static void keepBadAheadOfState() {
        for (int k : new int[] {-1, 3, MIN, MAX}) {
            bad("keep(" + k + ")", Edges::shelves, x -> x.keep(k));
        }
    }

    @Edges.Doc(promise = 21, says = "BAD; NOTHING.")
    static void onBadAheadOfNothing() {
        for (int k : new int[] {-1, 3, MIN, MAX}) {
            bad("on(" + k + ")", Edges::shelves, x -> x.on(k));
        }
    }

    @Edges.Doc(promise = 24, says = "the least by asked() (NONE). BAD.")
    static void meansAndLeastBadAheadOfNone() {
        bad("means(6, 99)", Edges::busy, x -> x.means(6, 99));
        bad("means(0, 100), none says so", Edges::busy, x -> x.means(0, 100));
        bad("least(6, 99)", Edges::busy, x -> x.least(6, 99));
        bad("least(0, 100), none breathes so", Edges::busy, x -> x.least(0, 100));
    }

    @Edges.Doc(promise = 28, says = "BAD; STATE: no MEMBERS.")
    static void windowBadAheadOfState() {
        for (int w : new int[] {-1, 7993, MIN, MAX}) {
            bad("window(" + w + ")", Edges::shelves, x -> x.window(w));
        }
    }

    @Edges.Doc(promise = 29, says = "NONE: not by three. BAD.")
    static void talksBadAheadOfNone() {
        bad("no row, not by three", Edges::busy, x -> x.talks(0, 0, 999, 6));
        bad("no smoke that can be", Edges::busy, x -> x.talks(99, 0, 1000, 4));
        bad("no cell, though nothing is asked", Edges::busy, x -> x.talks(99, 5, 0, 4));
        bad("all", Edges::shelves, x -> x.talks(-1, -1, -1, -1));
    }

    private interface Sets {
        int of(ClubSmoke x, int v, int b);
    }

    private static void setsInTheirOrder(String call, Sets sets) {
        int[][] bad = {{-1, 0}, {100, 0}, {0, -1}, {0, 595}, {MIN, MAX}};
        for (int[] b : bad) {
            String what = call + "(" + b[0] + ", " + b[1] + ")";
            bad(what + ", BAD ahead of STATE", Edges::shelves, x -> sets.of(x, b[0], b[1]));
            bad(what + ", BAD ahead of NOUGHT", Edges::busy, x -> sets.of(x, b[0], b[1]));
        }
        Edges.refused(call + "(0, 1), STATE ahead of NOUGHT", Edges::shelves, x -> sets.of(x, 0, 1), Edges.STATE);
    }

    @Edges.Doc(promise = 30, says = "BAD; STATE: no MEMBERS.")
    static void setsInItsOrder() {
        setsInTheirOrder("sets", ClubSmoke::sets);
    }

    @Edges.Doc(promise = 31, says = "BAD; STATE; NOUGHT: there is no set. (In this order.)")
    static void sureInItsOrder() {
        setsInTheirOrder("sure", ClubSmoke::sure);
    }

    @Edges.Doc(promise = 32, says = "BAD; STATE; NOUGHT. (In this order.)")
    static void askInItsOrder() {
        setsInTheirOrder("ask", ClubSmoke::ask);
    }

    private static Edges.State noted(int... notes) {
        return () -> {
            ClubSmoke x = Edges.busy();
            Check.fill(x, 5, notes);
            return x;
        };
    }

    private static void notesInTheirOrder(Edges.Given call) {
        int[] seventeen = Edges.many(17, 100);
        int[] eighteen = Edges.many(18, -1);
        Edges.finds("SIZE ahead of UNLIKE, one", noted(100), x -> call.of(x, 5), Edges.SIZE);
        Edges.finds("SIZE ahead of UNLIKE, three", noted(0, MIN, 0), x -> call.of(x, 5), Edges.SIZE);
        Edges.finds("SIZE ahead of UNLIKE, 17", noted(seventeen), x -> call.of(x, 5), Edges.SIZE);
        Edges.finds("SIZE ahead of UNLIKE, 18", noted(eighteen), x -> call.of(x, 5), Edges.SIZE);
        bad("BAD ahead of NOTHING", Edges::busy, x -> call.of(x, 6));
        bad("BAD ahead of NOTHING", Edges::shelves, x -> call.of(x, -1));
    }

    @Edges.Doc(promise = 33, says = "BAD; NOTHING; SIZE; UNLIKE.")
    static void whoInItsOrder() {
        notesInTheirOrder((x, r) -> x.who(r));
    }

    @Edges.Doc(promise = 34, says = "BAD; NOTHING; SIZE; UNLIKE.")
    static void kindsInItsOrder() {
        notesInTheirOrder((x, r) -> x.kinds(r));
    }

    @Edges.Doc(promise = 35, says = {"NONE: there is no KIND. BAD; NOTHING; SIZE; UNLIKE.", "UNLIKE; behind BAD"})
    static void testInItsOrder() {
        notesInTheirOrder((x, r) -> x.test(r));
        Edges.finds("SIZE, though no kind says so", noted(0, 99, 0), x -> x.test(5), Edges.SIZE);
        Edges.finds("UNLIKE, though no kind says so", noted(0, 99, 0, 100), x -> x.test(5), Edges.UNLIKE);
    }

    @Edges.Doc(promise = 37, says = "BAD; STATE: no MEMBERS.")
    static void eveningBadAheadOfState() {
        int[][] bad = {{-1, 0}, {100, 0}, {0, -1}, {0, 3}, {MIN, MAX}};
        for (int[] b : bad) {
            bad("evening(" + b[0] + ", " + b[1] + ")", Edges::shelves, x -> x.evening(b[0], b[1]));
        }
    }

    @Edges.Doc(promise = 38, says = "BAD; STATE: no MEMBERS.")
    static void oddsBadAheadOfState() {
        int[][] bad = {{-1, 0, 0}, {7993, 0, 0}, {0, -1, 0}, {0, 7, 0}, {0, 0, -1}, {0, 0, 13}, {MIN, MAX, MIN}};
        for (int[] b : bad) {
            bad("odds(" + b[0] + ", " + b[1] + ", " + b[2] + ")", Edges::shelves, x -> x.odds(b[0], b[1], b[2]));
        }
    }

    @Edges.Doc(promise = 39, says = "BAD; STATE: no MEMBERS.")
    static void midBadAheadOfState() {
        int[][] bad = {{-1, 0}, {7, 0}, {0, -1}, {0, 13}, {MIN, MAX}};
        for (int[] b : bad) {
            bad("mid(" + b[0] + ", " + b[1] + ")", Edges::shelves, x -> x.mid(b[0], b[1]));
        }
    }

    @Edges.Doc(promise = 40, says = "BAD; STATE: no MEMBERS; FULL: with n more there would be more than 40 DEEDS. (FULL last.)")
    static void lotsInItsOrder() {
        int[][] bad = {{0, 1}, {-1, 1}, {21, 1}, {41, 1}, {1, 0}, {1, -1}, {1, MAX}, {1, MIN}, {MIN, MIN}, {MAX, MAX}};
        for (int[] b : bad) {
            String call = "lots(" + b[0] + ", " + b[1] + ")";
            bad(call + ", BAD ahead of STATE", Edges::shelves, x -> x.lots(b[0], b[1]));
            bad(call + ", BAD ahead of FULL", Edges::fullClub, x -> x.lots(b[0], b[1]));
        }
    }
}
