/** Promises 10 to 14: faults, clubs, members, marks, smoke. */
final class ClubsTest {
    private static final String SIX = "p35 m0b1y1f2a4v1";

    private ClubsTest() {
    }

    public static void main(String[] args) {
        faults();
        faultRefused();
        club();
        member();
        mark();
        smoke();
        Check.end();
    }

    private static void faultDue(String signs, int want) {
        ClubSmoke x = new ClubSmoke();
        Check.write(x, 1, signs);
        Check.due("fault '" + signs + "'", x.fault(1), want);
        Check.due("club '" + signs + "'", x.club(1) > 0 ? -9 : x.fault(1), want);
    }

    private static void faults() {
        faultDue(SIX, -9);
        faultDue("   p03   m0   b2   ", -9);
        faultDue("p98v7", -9);
        faultDue("p98m0m1m2m3m4m5", -9);
        faultDue("p98m0m1m2m3m4m5   ", -9);
        faultDue("", 0);
        faultDue("    ", 4);
        faultDue("m0", 0);
        faultDue(" P35m0", 1);
        faultDue("p", 1);
        faultDue("p3", 2);
        faultDue("p35", 3);
        faultDue("p35  ", 5);
        faultDue("p x5m0", 1);
        faultDue("p 35m0", 1);
        faultDue("p3 5m0", 2);
        faultDue("p/5m0", 1);
        faultDue("p:5m0", 1);
        faultDue("p32m0", 2);
        faultDue("p39m0", 2);
        faultDue("p33m2", -9);
        faultDue("p33m3", 4);
        faultDue("p38m8", 4);
        faultDue("p38m/", 4);
        faultDue("p38m 0", 4);
        faultDue("p38m", 4);
        faultDue("p38m0b", 6);
        faultDue("p38m0 b ", 7);
        faultDue("p38c0", 3);
        faultDue("p38m0p35", 5);
        faultDue("p38m00", 5);
        faultDue("p38M0", 3);
        faultDue("p98m0m1m2m3m4m5m6", 15);
        faultDue("p98m0m1m2m3m4m5 x", 16);
        faultDue("p98m0m1m2m3m4m5  0", 17);
    }

    private static void faultRefused() {
        ClubSmoke x = new ClubSmoke();
        Check.due("fault(4)", x.fault(4), -1);
        Check.due("fault(-1)", x.fault(-1), -1);
        Check.finds("fault(0)", x, x.fault(0), 1);
        Check.write(x, 0, "p33m0");
        x.put(0, 0, 112 + 256);
        Check.due("cut to a byte", x.fault(0), -9);
        x.put(0, 0, 112 - 128);
        Check.due("another byte", x.fault(0), 0);
    }

    private static void club() {
        ClubSmoke x = new ClubSmoke();
        Check.due("club(4)", x.club(4), -1);
        Check.due("club(-1)", x.club(-1), -1);
        Check.finds("club(0)", x, x.club(0), 1);
        Check.write(x, 0, SIX);
        Check.write(x, 1, "p73 f2 f2");
        Check.write(x, 2, "p79 f2 f2");
        Check.due("club(0)", x.club(0), 6);
        Check.due("cells", x.count(1), 5);
        Check.due("leak", x.count(7), 3);
        x.talk(0, 99);
        x.hour();
        for (int k = 0; k < 3; k++) {
            x.keep(k);
        }
        x.thunder();
        long before = x.digest();
        Check.due("a fault", x.club(2), -4);
        Check.due("STATE changes nothing", x.digest(), before);
        Check.due("club(1)", x.club(1), 2);
        int[] counts = {2, 3, 0, 0, 0, 0, 0, 7, 0, 0, 0, 3, 0};
        for (int what = 0; what < counts.length; what++) {
            Check.due("anew count(" + what + ")", x.count(what), counts[what]);
        }
        for (int k = 0; k < 3; k++) {
            Check.finds("kept clubs go", x, x.on(k), 1);
        }
        Check.due("talked anew", x.member(0, 3) == 1 ? x.asked() : -77, 0);
        x.put(1, 0, 0);
        Check.due("the text may go", x.count(0), 2);
    }

    private static void fact(ClubSmoke x, int i, int what, int want) {
        Check.due("member(" + i + ", " + what + ")", x.member(i, what), 1);
        Check.due("member(" + i + ", " + what + ") told", x.asked(), want);
    }

    private static void member() {
        ClubSmoke x = Check.club(SIX);
        int[] seats = {0, 1, 1, 2, 4, 1};
        x.talk(5, 80);
        x.talk(5, 9);
        x.talk(0, 7);
        int[] smoke = {4, 80, 80, 0, 0, 80};
        int[] talked = {1, 0, 0, 0, 0, 2};
        for (int i = 0; i < 6; i++) {
            fact(x, i, 0, i);
            fact(x, i, 1, seats[i]);
            fact(x, i, 2, smoke[i]);
            fact(x, i, 3, talked[i]);
        }
        Check.due("member(6, 0)", x.member(6, 0), -1);
        Check.due("member(-1, 0)", x.member(-1, 0), -1);
        Check.due("member(0, 4)", x.member(0, 4), -1);
        Check.due("member(0, -1)", x.member(0, -1), -1);
        Check.due("asked stays", x.asked(), 2);
    }

    private static void mark() {
        ClubSmoke x = Check.club("p05 b0 a4 y1 v1 f2 f2");
        Check.due("none yet", x.mark(0, 1), 0);
        x.talk(0, 98);
        Check.due("24 there, 12 behind, 13 ahead", x.mark(0, 1), 49);
        Check.due("of an admiral", x.mark(1, 1), 13 + 24);
        Check.due("admiral", x.mark(1, 4), 4);
        Check.due("young", x.mark(2, 2), 1);
        Check.due("vicar as a young one", x.mark(3, 2), 1);
        Check.due("vicar", x.mark(3, 5), 10);
        Check.due("foreign: the other one, the vicar", x.mark(4, 3), 2);
        int[][] unlike = {{0, 2}, {0, 3}, {0, 4}, {0, 5}, {1, 2}, {1, 5}, {2, 1}, {2, 5}, {2, 3}, {3, 4}, {4, 1}, {4, 5}};
        for (int[] u : unlike) {
            Check.finds("mark(" + u[0] + ", " + u[1] + ")", x, x.mark(u[0], u[1]), 3);
        }
        Check.due("mark(0, 0)", x.mark(0, 0), -1);
        Check.due("mark(0, 6)", x.mark(0, 6), -1);
        Check.due("mark(6, 1)", x.mark(6, 1), -1);
        Check.due("mark(-1, 1)", x.mark(-1, 1), -1);
        ClubSmoke y = Check.club("p03 m0 y0 y1 y0 v2 v0");
        Check.finds("a plain member", y, y.mark(0, 1), 3);
        Check.due("young under the same cell", y.mark(1, 2), 2);
        Check.due("alone", y.mark(2, 2), 0);
        Check.due("vicar alone", y.mark(4, 2), 0);
        Check.due("vicar among young", y.mark(5, 2), 2);
        ClubSmoke z = Check.club("p03 v2 f1 y2 f2");
        Check.due("the first and the last one too", z.mark(1, 3), 2);
        Check.due("the first one too", z.mark(3, 3), 2);
        Check.due("the first one too", z.mark(2, 2), 1);
        Check.due("the first one itself not", z.mark(0, 2), 1);
    }

    private static void smoke() {
        ClubSmoke x = Check.club("p38 a7 b0 v3");
        x.talk(0, 99);
        int[] byAdmiral = {13, 0, 0, 0, 0, 0, 13, 25};
        for (int c = 0; c < 8; c++) {
            Check.due("51 in rings, smoke(" + c + ")", x.smoke(c), byAdmiral[c]);
        }
        x.undo(0);
        x.talk(1, 5);
        int[] byBishop = {1, 1, 0, 0, 0, 0, 0, 1};
        for (int c = 0; c < 8; c++) {
            Check.due("3 in rings, smoke(" + c + ")", x.smoke(c), byBishop[c]);
        }
        Check.due("smoke(8)", x.smoke(8), -1);
        Check.due("smoke(-1)", x.smoke(-1), -1);
    }
}
