import java.io.IOException;

/** Boundaries of promises 1 to 9: a new object, rows, texts. */
final class EdgesRowsTest {
    private static final int MIN = Edges.MIN, MAX = Edges.MAX;

    private EdgesRowsTest() {
    }

    public static void main(String[] args) throws ReflectiveOperationException, IOException {
        Edges.run(EdgesRowsTest.class);
    }

    private static void placesAre(ClubSmoke x, int r, int... due) {
        for (int i = 0; i < due.length; i++) {
            Check.due("place " + i + " of row " + r, Check.place(x, r, i), due[i]);
        }
        Check.finds("place " + due.length + " of row " + r, x, x.at(r, due.length), Edges.BEYOND);
    }

    private static ClubSmoke forty() {
        ClubSmoke x = new ClubSmoke();
        Check.fill(x, 0, Edges.many(40, 6));
        return x;
    }

    // ---- 1 a new object

    @Edges.Doc(promise = 1, says = {"No ROWS, TEXTS, MEMBERS, CELLS.", "or missing (at first)"})
    static void nothingIsThereAtFirst() {
        ClubSmoke x = new ClubSmoke();
        for (int what = 0; what <= 12; what++) {
            Check.due("count(" + what + ")", x.count(what), 0);
        }
        for (int r = 0; r <= 5; r++) {
            Check.finds("tear(" + r + ")", x, x.tear(r), Edges.NOTHING);
        }
        for (int t = 0; t <= 3; t++) {
            Check.finds("fault(" + t + ")", x, x.fault(t), Edges.NOTHING);
            Check.finds("club(" + t + ")", x, x.club(t), Edges.NOTHING);
        }
        for (int i = 0; i <= 5; i++) {
            Check.due("member(" + i + ", 0)", x.member(i, 0), -1);
            Check.due("says(" + i + ", 0)", x.says(i, 0), -1);
        }
        for (int c = 0; c <= 7; c++) {
            Check.due("smoke(" + c + ")", x.smoke(c), -1);
        }
        for (int k = 0; k <= 2; k++) {
            Check.finds("on(" + k + ")", x, x.on(k), Edges.NOTHING);
        }
    }

    @Edges.Doc(promise = 1, says = "HOUR 0 is at first, no SMOKE hangs, nothing was HEARD.")
    static void objectsAreApart() {
        ClubSmoke x = Edges.busy();
        nothingIsThereAtFirst();
        Check.due("the other one's members", x.count(0), 6);
    }

    // ---- 2 row

    @Edges.Doc(promise = 2, says = {"A ROW is there with n ints 0: n.", "ROWS 0 .. 5 are rows of 0 to 40 ints"})
    static void rowsHaveNoughtToFortyPlaces() {
        for (int n : new int[] {0, 1, 39, 40}) {
            ClubSmoke x = new ClubSmoke();
            Check.due("row(3, " + n + ")", x.row(3, n), n);
            placesAre(x, 3, Edges.many(n, 0));
            Check.due("rows", x.count(10), 1);
        }
    }

    @Edges.Doc(promise = 2, says = "A ROW is there with n ints 0: n.")
    static void rowsAnewAreNoughts() {
        ClubSmoke x = forty();
        Check.due("row(0, 1)", x.row(0, 1), 1);
        Check.due("row(0, 40)", x.row(0, 40), 40);
        placesAre(x, 0, Edges.many(40, 0));
        Check.due("still one row", x.count(10), 1);
    }

    @Edges.Doc(promise = 2, says = {"BAD: also n above 40", "ROWS 0 .. 5"})
    static void rowsBeyondTheNumbersAreBad() {
        Edges.range("row(r, 3), r", Edges::busy, 0, 5, (x, r) -> x.row(r, 3));
    }

    @Edges.Doc(promise = 2, says = "BAD: also n above 40")
    static void rowsOfMoreThanFortyAreBad() {
        for (int n : new int[] {41, 42, 1000, MAX}) {
            Edges.refused("row(3, " + n + ")", Edges::busy, x -> x.row(3, n), Edges.BAD);
            Edges.refused("row(4, " + n + "), missing", Edges::busy, x -> x.row(4, n), Edges.BAD);
        }
    }

    @Edges.Doc(promise = 2, says = "SIZE: below 0.")
    static void rowsOfFewerThanNoneAreSize() {
        for (int n : new int[] {-1, -2, MIN}) {
            Edges.finds("row(3, " + n + ")", Edges::busy, x -> x.row(3, n), Edges.SIZE);
            Edges.finds("row(4, " + n + "), missing", Edges::busy, x -> x.row(4, n), Edges.SIZE);
        }
    }

    // ---- 3 lay

    @Edges.Doc(promise = 3, says = "Place i of a ROW is v: what it was, told by asked(): 1.")
    static void layReachesFirstAndLastPlace() {
        ClubSmoke x = forty();
        for (int i : new int[] {0, 39}) {
            Edges.tells("lay(0, " + i + ", MIN)", x, y -> y.lay(0, i, MIN), 6);
            Edges.tells("lay(0, " + i + ", MAX)", x, y -> y.lay(0, i, MAX), MIN);
            Edges.tells("lay(0, " + i + ", 6)", x, y -> y.lay(0, i, 6), MAX);
        }
        placesAre(x, 0, Edges.many(40, 6));
    }

    @Edges.Doc(promise = 3, says = "BAD; NOTHING; BEYOND.")
    static void layOfNoRowIsBad() {
        Edges.range("lay(r, 0, 1), r", Edges::busy, 0, 5, (x, r) -> x.lay(r, 0, 1));
    }

    @Edges.Doc(promise = 3, says = "NOTHING (a ROW, a TEXT, a kept CLUB that is missing)")
    static void layOfAMissingRowFindsNothing() {
        for (int r : new int[] {0, 4, 5}) {
            Edges.finds("lay(" + r + ", 0, 1)", Edges::busy, x -> x.lay(r, 0, 1), Edges.NOTHING);
        }
    }

    @Edges.Doc(promise = 3, says = "BEYOND (a place of a ROW, a TEXT that there is not)")
    static void layBeyondThePlaces() {
        for (int i : new int[] {3, 4, 39, 40, MAX, -1, MIN}) {
            Edges.finds("lay(3, " + i + ", 1)", Edges::busy, x -> x.lay(3, i, 1), Edges.BEYOND);
        }
        for (int i : new int[] {0, -1, 1}) {
            Edges.finds("lay(2, " + i + ", 1), empty", Edges::busy, x -> x.lay(2, i, 1), Edges.BEYOND);
        }
        Edges.finds("lay(0, 40, 1), full", EdgesRowsTest::forty, x -> x.lay(0, 40, 1), Edges.BEYOND);
    }

    // ---- 4 at

    @Edges.Doc(promise = 4, says = "Place i of a ROW, told by asked(): 1.")
    static void atReachesFirstAndLastPlace() {
        ClubSmoke x = forty();
        x.lay(0, 0, MIN);
        x.lay(0, 39, MAX);
        Edges.tells("at(0, 0)", x, y -> y.at(0, 0), MIN);
        Edges.tells("at(0, 1)", x, y -> y.at(0, 1), 6);
        Edges.tells("at(0, 39)", x, y -> y.at(0, 39), MAX);
        Edges.tells("at(0, 38)", x, y -> y.at(0, 38), 6);
    }

    @Edges.Doc(promise = 4, says = "BAD; NOTHING; BEYOND.")
    static void atOfNoRowIsBad() {
        Edges.range("at(r, 0), r", Edges::busy, 0, 5, (x, r) -> x.at(r, 0));
    }

    @Edges.Doc(promise = 4, says = "NOTHING (a ROW, a TEXT, a kept CLUB that is missing)")
    static void atOfAMissingRowFindsNothing() {
        for (int r : new int[] {0, 4, 5}) {
            Edges.finds("at(" + r + ", 0)", Edges::busy, x -> x.at(r, 0), Edges.NOTHING);
        }
    }

    @Edges.Doc(promise = 4, says = "BEYOND (a place of a ROW, a TEXT that there is not)")
    static void atBeyondThePlaces() {
        for (int i : new int[] {3, 4, 39, 40, MAX, -1, MIN}) {
            Edges.finds("at(3, " + i + ")", Edges::busy, x -> x.at(3, i), Edges.BEYOND);
        }
        for (int i : new int[] {0, -1, 1}) {
            Edges.finds("at(2, " + i + "), empty", Edges::busy, x -> x.at(2, i), Edges.BEYOND);
        }
        Edges.finds("at(0, 40), full", EdgesRowsTest::forty, x -> x.at(0, 40), Edges.BEYOND);
    }

    // ---- 5 tear

    @Edges.Doc(promise = 5, says = "A ROW is missing: 1.")
    static void tornRowsAreMissing() {
        ClubSmoke x = new ClubSmoke();
        x.row(0, 40);
        x.row(5, 0);
        Check.due("tear(0), full", x.tear(0), 1);
        Check.due("rows", x.count(10), 1);
        Check.due("tear(5), empty", x.tear(5), 1);
        Check.due("rows", x.count(10), 0);
        Check.finds("at(0, 0)", x, x.at(0, 0), Edges.NOTHING);
        Check.due("there again", x.row(0, 40), 40);
        placesAre(x, 0, Edges.many(40, 0));
    }

    @Edges.Doc(promise = 5, says = "BAD; NOTHING.")
    static void tearOfNoRowIsBad() {
        Edges.range("tear(r), r", Edges::busy, 0, 5, (x, r) -> x.tear(r));
    }

    @Edges.Doc(promise = 5, says = "BAD; NOTHING.")
    static void tearOfAMissingRowFindsNothing() {
        for (int r : new int[] {0, 4, 5}) {
            Edges.finds("tear(" + r + ")", Edges::busy, x -> x.tear(r), Edges.NOTHING);
        }
        Edges.finds("tear(3) twice", () -> {
            ClubSmoke x = Edges.busy();
            x.tear(3);
            return x;
        }, x -> x.tear(3), Edges.NOTHING);
    }

    // ---- 6 copy

    private static ClubSmoke two() {
        ClubSmoke x = new ClubSmoke();
        Check.fill(x, 0, 1, 2, 3, 4);
        Check.fill(x, 5, 7, 8, 9);
        x.row(1, 0);
        return x;
    }

    @Edges.Doc(promise = 6, says = "n places of a ROW, from one on, come to those of another one")
    static void copyUpToTheLastPlaces() {
        ClubSmoke x = two();
        Check.due("copy(0, 1, 5, 0, 3)", x.copy(0, 1, 5, 0, 3), 1);
        placesAre(x, 5, 2, 3, 4);
        placesAre(x, 0, 1, 2, 3, 4);
        Check.due("copy(5, 2, 0, 3, 1)", x.copy(5, 2, 0, 3, 1), 1);
        Check.due("copy(5, 0, 0, 0, 1)", x.copy(5, 0, 0, 0, 1), 1);
        placesAre(x, 0, 2, 2, 3, 4);
        ClubSmoke y = forty();
        y.row(3, 40);
        Check.due("all forty", y.copy(0, 0, 3, 0, 40), 1);
        placesAre(y, 3, Edges.many(40, 6));
    }

    @Edges.Doc(promise = 6, says = "(perhaps itself) from one on, as if taken ahead: 1.")
    static void copyOntoItself() {
        ClubSmoke x = two();
        Check.due("on by one", x.copy(0, 0, 0, 1, 3), 1);
        placesAre(x, 0, 1, 1, 2, 3);
        ClubSmoke y = two();
        Check.due("back by one", y.copy(0, 1, 0, 0, 3), 1);
        placesAre(y, 0, 2, 3, 4, 4);
        ClubSmoke z = two();
        Check.due("where it is", z.copy(0, 0, 0, 0, 4), 1);
        placesAre(z, 0, 1, 2, 3, 4);
    }

    @Edges.Doc(promise = 6, says = "BEYOND: not so many there.")
    static void copyOfNoPlaces() {
        int[][] fine = {{0, 0, 5, 0}, {0, 4, 5, 3}, {1, 0, 0, 4}, {0, 4, 1, 0}, {1, 0, 1, 0}};
        for (int[] f : fine) {
            ClubSmoke x = two();
            long before = x.digest();
            Check.due("none at the end", x.copy(f[0], f[1], f[2], f[3], 0), 1);
            Check.due("nothing came", x.digest(), before);
        }
        int[][] beyond = {{0, 5, 5, 0}, {0, 0, 5, 4}, {1, 1, 0, 0}, {0, -1, 5, 0}, {0, 0, 5, -1}, {0, MAX, 5, 0}, {0, 0, 5, MIN}};
        for (int[] b : beyond) {
            Edges.finds("none beyond the end", EdgesRowsTest::two, x -> x.copy(b[0], b[1], b[2], b[3], 0), Edges.BEYOND);
        }
    }

    @Edges.Doc(promise = 6, says = "BAD; SIZE: n below 0; NOTHING: either; BEYOND: not so many there.")
    static void copyOfNoRowIsBad() {
        Edges.range("copy(r, 0, 3, 0, 1), r", Edges::busy, 0, 5, (x, r) -> x.copy(r, 0, 3, 0, 1));
        Edges.range("copy(3, 0, to, 0, 1), to", Edges::busy, 0, 5, (x, to) -> x.copy(3, 0, to, 0, 1));
        Edges.refused("both", Edges::busy, x -> x.copy(6, 0, 6, 0, 1), Edges.BAD);
    }

    @Edges.Doc(promise = 6, says = "SIZE: n below 0")
    static void copyOfFewerThanNoneIsSize() {
        for (int n : new int[] {-1, MIN}) {
            Edges.finds("n " + n, Edges::busy, x -> x.copy(1, 0, 3, 0, n), Edges.SIZE);
        }
    }

    @Edges.Doc(promise = 6, says = "NOTHING: either")
    static void copyOfAMissingRowFindsNothing() {
        Edges.finds("from", Edges::busy, x -> x.copy(4, 0, 3, 0, 1), Edges.NOTHING);
        Edges.finds("to", Edges::busy, x -> x.copy(3, 0, 4, 0, 1), Edges.NOTHING);
        Edges.finds("both", Edges::busy, x -> x.copy(0, 0, 4, 0, 1), Edges.NOTHING);
        Edges.finds("itself", Edges::busy, x -> x.copy(4, 0, 4, 0, 0), Edges.NOTHING);
    }

    @Edges.Doc(promise = 6, says = "BEYOND: not so many there.")
    static void copyBeyondThePlaces() {
        int[][] beyond = {{0, 2, 5, 0, 3}, {0, 0, 5, 1, 3}, {0, 4, 5, 0, 1}, {0, 0, 5, 3, 1}, {0, 0, 5, 0, 4}, {5, 0, 0, 0, 4},
            {0, -1, 5, 0, 1}, {0, 0, 5, -1, 1}, {0, MIN, 5, 0, 1}, {0, 0, 5, MIN, 1}, {1, 0, 0, 0, 1}, {0, 0, 1, 0, 1},
            {0, 0, 0, 1, 4}, {0, 1, 0, 0, 4}, {0, -1, 5, 0, 2}, {0, 0, 5, -2, 2}};
        for (int[] b : beyond) {
            String call = "copy(" + b[0] + ", " + b[1] + ", " + b[2] + ", " + b[3] + ", " + b[4] + ")";
            Edges.finds(call, EdgesRowsTest::two, x -> x.copy(b[0], b[1], b[2], b[3], b[4]), Edges.BEYOND);
        }
        Edges.finds("41 of forty", EdgesRowsTest::forty, x -> x.copy(0, 0, 0, 0, 41), Edges.BEYOND);
    }

    /** Sums of a place and n that go beyond int are above each size, not below 0. */
    @Edges.Doc(promise = 6, says = "BEYOND: not so many there.")
    static void copyDoesNotWrapAround() {
        int[][] beyond = {{1, 0, MAX}, {0, 1, MAX}, {0, 0, MAX}, {MAX, 0, 1}, {0, MAX, 1}, {MAX, MAX, MAX}, {MAX, MAX, 2},
            {MIN, 0, MAX}, {0, MIN, MAX}, {MIN, MIN, MAX}, {-1, 0, MAX}, {0, -1, MAX}};
        for (int[] b : beyond) {
            String call = "copy(0, " + b[0] + ", 0, " + b[1] + ", " + b[2] + ")";
            Edges.finds(call, EdgesRowsTest::two, x -> x.copy(0, b[0], 0, b[1], b[2]), Edges.BEYOND);
        }
    }

    // ---- 7 mean

    private static void meanDue(int due, int... values) {
        ClubSmoke x = Edges.row(0, values).make();
        Edges.tells("mean(0) of " + values.length, x, y -> y.mean(0), due);
    }

    @Edges.Doc(promise = 7, says = "The mean of a ROW's ints, cut, told by asked(): 1.")
    static void meansAreCut() {
        meanDue(0, 0);
        meanDue(1, 1, 1);
        meanDue(0, 0, 1);
        meanDue(0, 0, -1);
        meanDue(1, 1, 2);
        meanDue(-1, -1, -2);
        meanDue(1, 1, 2, 2);
        meanDue(-1, -1, -2, -2);
        meanDue(-2, -2, -2, -2);
    }

    @Edges.Doc(promise = 7, says = "The mean of a ROW's ints, cut, told by asked(): 1.")
    static void meansDoNotWrapAround() {
        meanDue(MAX, MAX);
        meanDue(MIN, MIN);
        meanDue(MAX, MAX, MAX);
        meanDue(MIN, MIN, MIN);
        meanDue(0, MIN, MAX);
        meanDue(MAX - 1, MAX, MAX, MAX - 1);
        meanDue(MIN + 1, MIN, MIN, MIN + 1);
        meanDue(MAX, Edges.many(40, MAX));
        meanDue(MIN, Edges.many(40, MIN));
    }

    @Edges.Doc(promise = 7, says = "BAD; NOTHING; NOUGHT.")
    static void meanOfNoRowIsBad() {
        Edges.range("mean(r), r", Edges::busy, 0, 5, (x, r) -> x.mean(r));
    }

    @Edges.Doc(promise = 7, says = "BAD; NOTHING; NOUGHT.")
    static void meanOfAMissingRowFindsNothing() {
        for (int r : new int[] {0, 4, 5}) {
            Edges.finds("mean(" + r + ")", Edges::busy, x -> x.mean(r), Edges.NOTHING);
        }
    }

    @Edges.Doc(promise = 7, says = {"BAD; NOTHING; NOUGHT.", "NOUGHT (shared among none; nothing fits)"})
    static void meanOfNoneIsNought() {
        Edges.finds("mean(2)", Edges::busy, x -> x.mean(2), Edges.NOUGHT);
    }

    // ---- 8 text

    private static void blanksAre(ClubSmoke x, int t, int n) {
        for (int i = 0; i < n; i++) {
            Check.due("byte " + i, x.put(t, i, 0), 1032);
        }
        Check.finds("byte " + n, x, x.put(t, n, 0), Edges.BEYOND);
    }

    @Edges.Doc(promise = 8, says = {"A TEXT is there with n blanks: n.", "TEXTS 0 .. 3 rows of 0 to 60 bytes"})
    static void textsHaveNoughtToSixtyBytes() {
        for (int n : new int[] {0, 1, 59, 60}) {
            ClubSmoke x = new ClubSmoke();
            Check.due("text(3, " + n + ")", x.text(3, n), n);
            Check.due("texts", x.count(11), 1);
            blanksAre(x, 3, n);
        }
    }

    @Edges.Doc(promise = 8, says = "A TEXT is there with n blanks: n.")
    static void textsAnewAreBlanks() {
        ClubSmoke x = new ClubSmoke();
        x.text(0, 60);
        blanksAre(x, 0, 60);
        Check.due("text(0, 1)", x.text(0, 1), 1);
        Check.due("text(0, 60)", x.text(0, 60), 60);
        blanksAre(x, 0, 60);
        Check.due("still one text", x.count(11), 1);
    }

    @Edges.Doc(promise = 8, says = {"BAD: also n above 60", "TEXTS 0 .. 3"})
    static void textsBeyondTheNumbersAreBad() {
        Edges.range("text(t, 3), t", Edges::busy, 0, 3, (x, t) -> x.text(t, 3));
    }

    @Edges.Doc(promise = 8, says = "BAD: also n above 60")
    static void textsOfMoreThanSixtyAreBad() {
        for (int n : new int[] {61, 62, 1000, MAX}) {
            Edges.refused("text(1, " + n + ")", Edges::busy, x -> x.text(1, n), Edges.BAD);
            Edges.refused("text(3, " + n + "), missing", Edges::busy, x -> x.text(3, n), Edges.BAD);
        }
    }

    @Edges.Doc(promise = 8, says = "SIZE: below 0.")
    static void textsOfFewerThanNoneAreSize() {
        for (int n : new int[] {-1, -2, MIN}) {
            Edges.finds("text(1, " + n + ")", Edges::busy, x -> x.text(1, n), Edges.SIZE);
            Edges.finds("text(3, " + n + "), missing", Edges::busy, x -> x.text(3, n), Edges.SIZE);
        }
    }

    // ---- 9 put

    @Edges.Doc(promise = 9, says = "Byte i of a TEXT is v, cut to a byte: what it was, and 1000 more.")
    static void putCutsToAByte() {
        int[][] cut = {{0, 0}, {127, 127}, {128, -128}, {129, -127}, {255, -1}, {256, 0}, {383, 127}, {384, -128}, {-1, -1},
            {-128, -128}, {-129, 127}, {-256, 0}, {MAX, -1}, {MIN, 0}, {MIN + 1, 1}, {MAX - 1, -2}};
        ClubSmoke x = new ClubSmoke();
        x.text(2, 60);
        for (int[] c : cut) {
            x.put(2, 7, c[0]);
            Check.due("byte by " + c[0], x.put(2, 7, 32), 1000 + c[1]);
        }
    }

    @Edges.Doc(promise = 9, says = "Byte i of a TEXT is v, cut to a byte: what it was, and 1000 more.")
    static void putReachesFirstAndLastByte() {
        ClubSmoke x = new ClubSmoke();
        x.text(2, 60);
        for (int i : new int[] {0, 59}) {
            Check.due("put(2, " + i + ", 65)", x.put(2, i, 65), 1032);
            Check.due("put(2, " + i + ", 66)", x.put(2, i, 66), 1065);
        }
        Check.due("byte 1", x.put(2, 1, 0), 1032);
        Check.due("byte 58", x.put(2, 58, 0), 1032);
    }

    @Edges.Doc(promise = 9, says = "BAD; NOTHING; BEYOND.")
    static void putOfNoTextIsBad() {
        Edges.range("put(t, 0, 1), t", Edges::busy, 0, 3, (x, t) -> x.put(t, 0, 1));
    }

    @Edges.Doc(promise = 9, says = "NOTHING (a ROW, a TEXT, a kept CLUB that is missing)")
    static void putOfAMissingTextFindsNothing() {
        Edges.finds("put(3, 0, 1)", Edges::busy, x -> x.put(3, 0, 1), Edges.NOTHING);
        Edges.finds("put(0, 0, 1)", Edges::shelves, x -> x.put(0, 0, 1), Edges.NOTHING);
    }

    @Edges.Doc(promise = 9, says = "BEYOND (a place of a ROW, a TEXT that there is not)")
    static void putBeyondTheBytes() {
        for (int i : new int[] {4, 5, 59, 60, MAX, -1, MIN}) {
            Edges.finds("put(1, " + i + ", 1)", Edges::busy, x -> x.put(1, i, 1), Edges.BEYOND);
        }
        for (int i : new int[] {0, -1, 1}) {
            Edges.finds("put(2, " + i + ", 1), empty", Edges::busy, x -> x.put(2, i, 1), Edges.BEYOND);
        }
        Edges.finds("put(2, 60, 1), full", () -> {
            ClubSmoke x = new ClubSmoke();
            x.text(2, 60);
            return x;
        }, x -> x.put(2, 60, 1), Edges.BEYOND);
    }
}
