/** Promises 1 to 9: a new object, rows, texts. */
final class RowsTest {
    private static final int MIN = Integer.MIN_VALUE, MAX = Integer.MAX_VALUE;

    private RowsTest() {
    }

    public static void main(String[] args) {
        newObject();
        row();
        layAndAt();
        tear();
        copy();
        mean();
        text();
        put();
        Check.end();
    }

    private static void newObject() {
        ClubSmoke x = new ClubSmoke();
        for (int what = 0; what <= 12; what++) {
            Check.due("new count(" + what + ")", x.count(what), 0);
        }
        for (int r = 0; r <= 5; r++) {
            Check.finds("new at(" + r + ", 0)", x, x.at(r, 0), 1);
        }
        for (int t = 0; t <= 3; t++) {
            Check.finds("new fault(" + t + ")", x, x.fault(t), 1);
        }
        Check.due("new member(0, 0)", x.member(0, 0), -1);
        Check.due("new smoke(0)", x.smoke(0), -1);
        Check.due("new asked()", x.asked(), 0);
        Check.due("new upper()", x.upper(), 0);
        Check.due("new lower()", x.lower(), 1);
        Check.due("new finding()", new ClubSmoke().finding(), 0);
    }

    private static void row() {
        ClubSmoke x = new ClubSmoke();
        Check.due("row(0, 40)", x.row(0, 40), 40);
        Check.due("row(5, 0)", x.row(5, 0), 0);
        Check.due("row(0, 41)", x.row(0, 41), -1);
        Check.due("row(6, 1)", x.row(6, 1), -1);
        Check.due("row(-1, 1)", x.row(-1, 1), -1);
        Check.due("row(-1, -1), BAD ahead of SIZE", x.row(-1, -1), -1);
        Check.due("no finding by BAD", x.finding(), 0);
        Check.finds("row(0, -1)", x, x.row(0, -1), 5);
        Check.finds("row(0, MIN)", x, x.row(0, MIN), 5);
        Check.due("row(0, MAX)", x.row(0, MAX), -1);
        Check.due("refused row stays", Check.place(x, 0, 39), 0);
        x.lay(0, 3, 9);
        Check.due("row anew", x.row(0, 5), 5);
        Check.due("zeros anew", Check.place(x, 0, 3), 0);
        Check.finds("beyond anew", x, x.at(0, 5), 2);
    }

    private static void layAndAt() {
        ClubSmoke x = new ClubSmoke();
        x.row(2, 3);
        Check.due("lay(2, 0, MIN)", x.lay(2, 0, MIN), 1);
        Check.due("was", x.asked(), 0);
        Check.due("lay(2, 0, MAX)", x.lay(2, 0, MAX), 1);
        Check.due("was", x.asked(), MIN);
        Check.due("at(2, 0)", x.at(2, 0), 1);
        Check.due("is", x.asked(), MAX);
        Check.due("others are as they were", Check.place(x, 2, 1), 0);
        Check.due("lay(6, 0, 1)", x.lay(6, 0, 1), -1);
        Check.due("lay(-1, 0, 1)", x.lay(-1, 0, 1), -1);
        Check.due("at(6, 0)", x.at(6, 0), -1);
        Check.due("at(-1, 0)", x.at(-1, 0), -1);
        Check.finds("lay(1, 0, 1)", x, x.lay(1, 0, 1), 1);
        Check.finds("lay(2, 3, 1)", x, x.lay(2, 3, 1), 2);
        Check.finds("lay(2, -1, 1)", x, x.lay(2, -1, 1), 2);
        Check.finds("NOTHING ahead of BEYOND", x, x.at(1, 99), 1);
        Check.finds("at(2, 3)", x, x.at(2, 3), 2);
        Check.finds("at(2, MIN)", x, x.at(2, MIN), 2);
        Check.finds("at(2, MAX)", x, x.at(2, MAX), 2);
        Check.due("asked stays", x.asked(), 0);
    }

    private static void tear() {
        ClubSmoke x = new ClubSmoke();
        x.row(4, 2);
        Check.due("tear(4)", x.tear(4), 1);
        Check.finds("tear(4) again", x, x.tear(4), 1);
        Check.due("tear(6)", x.tear(6), -1);
        Check.due("tear(-1)", x.tear(-1), -1);
        Check.finds("torn at", x, x.at(4, 0), 1);
        Check.due("count(10)", x.count(10), 0);
    }

    private static void copy() {
        ClubSmoke x = new ClubSmoke();
        Check.fill(x, 0, 1, 2, 3, 4, 5);
        Check.fill(x, 1, 9, 9, 9);
        Check.due("copy to another", x.copy(0, 3, 1, 1, 2), 1);
        Check.due("copied 0", Check.place(x, 1, 0), 9);
        Check.due("copied 1", Check.place(x, 1, 1), 4);
        Check.due("copied 2", Check.place(x, 1, 2), 5);
        Check.due("copy onto itself, on", x.copy(0, 0, 0, 1, 4), 1);
        Check.due("as if taken ahead", Check.place(x, 0, 4), 4);
        Check.due("copy onto itself, back", x.copy(0, 1, 0, 0, 4), 1);
        Check.due("as if taken ahead", Check.place(x, 0, 0), 1);
        Check.due("as if taken ahead", Check.place(x, 0, 3), 4);
        Check.due("none at the end", x.copy(0, 5, 1, 3, 0), 1);
        Check.due("copy(6, ..)", x.copy(6, 0, 0, 0, -1), -1);
        Check.due("copy(.., -1, ..)", x.copy(0, 0, -1, 0, 1), -1);
        Check.finds("SIZE ahead of NOTHING", x, x.copy(2, 0, 0, 0, -1), 5);
        Check.finds("missing from", x, x.copy(2, 9, 0, 0, 1), 1);
        Check.finds("missing to", x, x.copy(0, 9, 2, 0, 1), 1);
        Check.finds("not so many there", x, x.copy(0, 3, 1, 0, 3), 2);
        Check.finds("not so many to", x, x.copy(0, 0, 1, 2, 2), 2);
        Check.finds("from below 0", x, x.copy(0, -1, 1, 0, 1), 2);
        Check.finds("to below 0", x, x.copy(0, 0, 1, -1, 1), 2);
        Check.finds("no wrap-around", x, x.copy(0, MAX, 1, 0, 1), 2);
        Check.finds("no wrap-around", x, x.copy(0, 1, 1, 0, MAX), 2);
        Check.finds("no wrap-around", x, x.copy(0, MAX, 1, MAX, MAX), 2);
        Check.due("asked is not told", x.copy(0, 0, 0, 0, 5), 1);
    }

    private static void mean() {
        ClubSmoke x = new ClubSmoke();
        Check.fill(x, 0, 1, 2, 4);
        Check.due("mean(0)", x.mean(0), 1);
        Check.due("7 by 3, cut", x.asked(), 2);
        Check.fill(x, 0, -1, -2, -4);
        x.mean(0);
        Check.due("-7 by 3, cut", x.asked(), -2);
        Check.fill(x, 0, MAX, MAX, MAX);
        x.mean(0);
        Check.due("no wrap-around", x.asked(), MAX);
        Check.fill(x, 0, MIN, MIN);
        x.mean(0);
        Check.due("no wrap-around", x.asked(), MIN);
        Check.due("mean(6)", x.mean(6), -1);
        Check.due("mean(-1)", x.mean(-1), -1);
        Check.finds("mean(1)", x, x.mean(1), 1);
        x.row(1, 0);
        Check.finds("mean of none", x, x.mean(1), 4);
        Check.due("asked stays", x.asked(), MIN);
    }

    private static void text() {
        ClubSmoke x = new ClubSmoke();
        Check.due("text(3, 60)", x.text(3, 60), 60);
        Check.due("blank", x.put(3, 59, 65), 1032);
        Check.due("text(3, 0)", x.text(3, 0), 0);
        Check.finds("no place", x, x.put(3, 0, 1), 2);
        Check.due("text(3, 61)", x.text(3, 61), -1);
        Check.due("text(4, 1)", x.text(4, 1), -1);
        Check.due("text(-1, -1)", x.text(-1, -1), -1);
        Check.finds("text(0, -1)", x, x.text(0, -1), 5);
        Check.due("count(11)", x.count(11), 1);
        Check.due("anew", x.text(3, 60), 60);
        Check.due("blank anew", x.put(3, 59, 65), 1032);
    }

    private static void put() {
        ClubSmoke x = new ClubSmoke();
        x.text(0, 2);
        Check.due("put(0, 0, 255)", x.put(0, 0, 255), 1032);
        Check.due("255 is the byte -1", x.put(0, 0, 256 + 128), 999);
        Check.due("384 is the byte -128", x.put(0, 0, 127), 872);
        Check.due("127", x.put(0, 0, -129), 1127);
        Check.due("-129 is the byte 127", x.put(0, 0, 0), 1127);
        Check.due("put(4, 0, 0)", x.put(4, 0, 0), -1);
        Check.due("put(-1, 0, 0)", x.put(-1, 0, 0), -1);
        Check.finds("put(1, 9, 0)", x, x.put(1, 9, 0), 1);
        Check.finds("put(0, 2, 0)", x, x.put(0, 2, 0), 2);
        Check.finds("put(0, -1, 0)", x, x.put(0, -1, 0), 2);
        Check.due("asked is not told", x.asked(), 0);
    }
}
