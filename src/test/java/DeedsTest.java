/** Promises 15 to 21: talk, hour, open, thunder, undo, keep, on. */
final class DeedsTest {
    private DeedsTest() {
    }

    public static void main(String[] args) {
        talk();
        most();
        hour();
        open();
        thunder();
        full();
        undo();
        keepAndOn();
        withoutMembers();
        Check.end();
    }

    private static void talk() {
        ClubSmoke x = Check.club("p35 m0b1y1f2a4v1");
        int[] said = {23, 23, 40, 47, 22, 7};
        for (int i = 0; i < 6; i++) {
            Check.due("talk(" + i + ", 47)", x.talk(i, 47), said[i]);
        }
        int[] smoke = {24 + 6 + 6, 12 + 7 + 40, 6, 7, 12};
        for (int c = 0; c < 5; c++) {
            Check.due("smoke(" + c + ")", x.smoke(c), smoke[c]);
        }
        Check.due("said in all", x.count(6), 162);
        Check.due("deeds", x.count(3), 6);
        Check.due("admiral says 0 at least", x.talk(4, 1), 0);
        Check.due("admiral", x.talk(4, 4), 1);
        Check.due("talk(6, 1)", x.talk(6, 1), -1);
        Check.due("talk(-1, 1)", x.talk(-1, 1), -1);
        Check.due("talk(0, 100)", x.talk(0, 100), -1);
        Check.due("talk(0, -1)", x.talk(0, -1), -1);
        Check.due("deeds", x.count(3), 8);
    }

    private static void most() {
        ClubSmoke x = Check.club("p13 v0 b1");
        for (int k = 0; k < 11; k++) {
            x.talk(0, 99);
        }
        Check.due("990", x.smoke(0), 990);
        x.talk(0, 89);
        Check.due("999 at most", x.smoke(0), 999);
        x.talk(1, 99);
        Check.due("rings lost too", x.smoke(0), 999);
        Check.due("rings there", x.smoke(1), 25);
        Check.due("rings behind", x.smoke(2), 12);
        x.hour();
        Check.due("what was lost is lost", x.smoke(0), 998);
    }

    private static void hour() {
        ClubSmoke x = Check.club("p73 m0 m1 f2");
        x.talk(0, 9);
        x.talk(1, 30);
        Check.due("5 and 7 leaked", x.hour(), 12);
        Check.due("smoke(0)", x.smoke(0), 0);
        Check.due("smoke(1)", x.smoke(1), 8);
        Check.due("the hour", x.count(2), 1);
        Check.due("7 leaked", x.hour(), 7);
        Check.due("1 leaked", x.hour(), 1);
        Check.due("0 leaked", x.hour(), 0);
        Check.due("the hour", x.count(2), 4);
        Check.due("deeds", x.count(3), 6);
        ClubSmoke y = Check.club("p03 m0");
        y.talk(0, 9);
        Check.due("no leak", y.hour(), 0);
    }

    private static void open() {
        ClubSmoke x = Check.club("p23 m0 b1");
        x.talk(0, 9);
        x.talk(1, 20);
        Check.due("open(0)", x.open(0), 5 + 3);
        Check.due("others hang", x.count(4), 7);
        Check.due("open(0) again", x.open(0), -4);
        Check.due("open(3)", x.open(3), -1);
        Check.due("open(-1)", x.open(-1), -1);
        Check.due("deeds", x.count(3), 3);
        Check.due("not heard", x.count(5), 0);
    }

    private static void thunder() {
        ClubSmoke x = Check.club("p23 m0 v2");
        Check.due("no smoke", x.thunder(), -4);
        x.talk(0, 9);
        x.talk(1, 99);
        Check.due("heard", x.thunder(), 95);
        Check.due("nothing hangs", x.count(4), 0);
        Check.due("no smoke", x.thunder(), -4);
        x.talk(0, 3);
        Check.due("heard in all", x.thunder(), 97);
        Check.due("count(5)", x.count(5), 97);
        Check.due("deeds", x.count(3), 5);
    }

    private static void full() {
        ClubSmoke x = Check.club("p03 m0 v2");
        for (int k = 0; k < 39; k++) {
            x.hour();
        }
        Check.due("the 40th", x.talk(0, 9), 4);
        long before = x.digest();
        Check.due("talk", x.talk(0, 9), -2);
        Check.due("talk, BAD ahead", x.talk(0, 100), -1);
        Check.due("hour", x.hour(), -2);
        Check.due("open", x.open(0), -2);
        Check.due("open, STATE ahead", x.open(1), -4);
        Check.due("open, BAD ahead", x.open(3), -1);
        Check.due("thunder", x.thunder(), -2);
        Check.due("FULL changes nothing", x.digest(), before);
        Check.due("keep is no deed", x.keep(0), 40);
        x.undo(39);
        x.hour();
        Check.due("thunder, STATE ahead", x.thunder(), -4);
        Check.due("on is no deed", x.on(0), 40);
    }

    private static void undo() {
        ClubSmoke x = Check.club("p35 m0b1y1f2a4v1");
        long[] before = new long[12];
        for (int k = 0; k < 12; k++) {
            before[k] = x.digest();
            switch (k % 5) {
                case 0: x.talk(k % 6, 80 + k); break;
                case 1: x.talk(1, 97); break;
                case 2: x.hour(); break;
                case 3: x.open(0); break;
                default: x.thunder(); break;
            }
        }
        Check.due("deeds", x.count(3), 12);
        Check.due("undo(13)", x.undo(13), -1);
        Check.due("undo(-1)", x.undo(-1), -1);
        Check.due("undo(12): none", x.undo(12), 0);
        Check.due("undo(9)", x.undo(9), 3);
        Check.due("as before 9", x.digest(), before[9]);
        Check.due("undo(10): gone", x.undo(10), -1);
        for (int k = 8; k >= 1; k--) {
            Check.due("undo(" + k + ")", x.undo(k), 1);
            Check.due("as before " + k, x.digest(), before[k]);
        }
        Check.due("undo(0)", x.undo(0), 1);
        Check.due("as before 0", x.digest(), before[0]);
        x.talk(5, 99);
        Check.due("goes on", x.smoke(1), 90);
    }

    private static void keepAndOn() {
        ClubSmoke x = Check.club("p35 m0b1y1f2a4v1");
        Check.finds("on(0)", x, x.on(0), 1);
        Check.due("keep(0), no deeds", x.keep(0), 0);
        x.talk(1, 99);
        x.hour();
        Check.due("keep(2)", x.keep(2), 2);
        x.thunder();
        Check.due("kept clubs", x.count(12), 2);
        Check.due("on(2)", x.on(2), 2);
        Check.due("hour", x.count(2), 1);
        Check.due("heard", x.count(5), 0);
        Check.due("smoke", x.smoke(1), 25 - 3);
        Check.due("deeds come along", x.undo(1), 1);
        Check.due("undone", x.smoke(1), 25);
        Check.due("kept as it was", x.on(2), 2);
        x.talk(0, 9);
        x.talk(0, 9);
        Check.due("kept anew", x.keep(2), 4);
        Check.due("on(0)", x.on(0), 0);
        Check.due("no smoke", x.count(4), 0);
        Check.due("on(2)", x.on(2), 4);
        Check.due("talked", x.member(0, 3) == 1 ? x.asked() : -77, 2);
        x.undo(0);
        x.talk(5, 90);
        x.talk(2, 9);
        Check.due("kept apart from what is done then", x.on(2), 4);
        Check.due("kept smoke", x.smoke(1), 25 - 3);
        x.on(0);
        x.talk(5, 90);
        x.keep(1);
        x.undo(0);
        x.hour();
        x.hour();
        Check.due("on(1)", x.on(1), 1);
        Check.due("a deed of its own", x.smoke(1), 90);
        Check.due("undone", x.undo(0), 1);
        x.club(0);
        Check.finds("on(1)", x, x.on(1), 1);
        Check.due("keep(3)", x.keep(3), -1);
        Check.due("keep(-1)", x.keep(-1), -1);
        Check.due("on(3)", x.on(3), -1);
        Check.due("on(-1)", x.on(-1), -1);
    }

    private static void withoutMembers() {
        ClubSmoke x = new ClubSmoke();
        Check.due("talk", x.talk(0, 0), -1);
        Check.due("hour", x.hour(), -4);
        Check.due("open", x.open(0), -1);
        Check.due("thunder", x.thunder(), -4);
        Check.due("undo(0)", x.undo(0), 0);
        Check.due("undo(1)", x.undo(1), -1);
        Check.due("keep(0)", x.keep(0), -4);
        Check.due("keep(3), BAD ahead", x.keep(3), -1);
        Check.finds("on(0)", x, x.on(0), 1);
    }
}
