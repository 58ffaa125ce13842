/** Promises 37 to 40: an evening by turns, chances, means, lots. */
final class ChancesTest {
    private ChancesTest() {
    }

    public static void main(String[] args) {
        evening();
        odds();
        mid();
        lots();
        lotsFull();
        withoutMembers();
        Check.end();
    }

    private static void evening() {
        ClubSmoke x = Check.club("p34 m0 b1 f2");
        Check.due("none", x.evening(99, 0), 0);
        Check.due("50 in rings, the 25 opened", x.evening(99, 1), 25);
        x.talk(0, 80);
        long before = x.digest();
        Check.due("evening(99, 0)", x.evening(99, 0), 40);
        Check.due("40 opened, or the rings", x.evening(40, 1), 15);
        Check.due("nothing is done", x.digest(), before);
        Check.due("evening(100, 0)", x.evening(100, 0), -1);
        Check.due("evening(-1, 0)", x.evening(-1, 0), -1);
        Check.due("evening(0, 3)", x.evening(0, 3), -1);
        Check.due("evening(0, -1)", x.evening(0, -1), -1);
        ClubSmoke y = Check.club("p03 v0 v1");
        Check.due("what is said first is opened", y.evening(90, 2), 0);
        y.talk(0, 50);
        y.talk(1, 50);
        y.talk(1, 20);
        Check.due("50 and 70: one is left", y.evening(0, 1), 50);
        Check.due("50 and 70, 140 and 70", y.evening(90, 1), 70);
        Check.due("both are opened", y.evening(0, 2), 0);
        ClubSmoke b = Check.club("p03 b0");
        Check.due("25, 12, 13 by rings: not the fullest first", b.evening(99, 2), 37);
        b.talk(0, 99);
        Check.due("25, 12, 13 hang: the same, one more", b.evening(99, 1), 50);
        ClubSmoke z = Check.club("p03 v0 v1");
        for (int k = 0; k < 22; k++) {
            z.talk(k % 2, 90);
        }
        Check.due("999 at most", z.evening(99, 1), 990);
        z.talk(0, 90);
        z.talk(1, 90);
        Check.due("more is lost", z.evening(99, 1), 999);
    }

    private static void told(ClubSmoke x, String call, int answer, long upper, long lower) {
        Check.due(call, answer, 1);
        Check.due(call + " upper()", x.upper(), upper);
        Check.due(call + " lower()", x.lower(), lower);
    }

    /** In 0, 1, .. 6 hours 60, 42, 32, 23, 14, 5, 0 hang. */
    private static ClubSmoke sixty() {
        ClubSmoke x = Check.club("p93 v0 v1");
        x.talk(0, 58);
        x.talk(1, 19);
        Check.due("60 hang", x.count(4), 60);
        return x;
    }

    private static void odds() {
        ClubSmoke x = sixty();
        told(x, "odds(60, 0, 0)", x.odds(60, 0, 0), 1, 1);
        told(x, "odds(61, 0, 12)", x.odds(61, 0, 12), 0, 1);
        told(x, "odds(60, 6, 12)", x.odds(60, 6, 12), 1, 1);
        told(x, "odds(60, 6, 0)", x.odds(60, 6, 0), 0, 1);
        told(x, "odds(60, 1, 5)", x.odds(60, 1, 5), 5, 12);
        told(x, "odds(60, 1, 8)", x.odds(60, 1, 8), 2, 3);
        told(x, "odds(0, 6, 5)", x.odds(0, 6, 5), 1, 1);
        told(x, "odds(7992, 6, 5)", x.odds(7992, 6, 5), 0, 1);
        told(x, "odds(42, 2, 6)", x.odds(42, 2, 6), 3, 4);
        told(x, "odds(43, 2, 6)", x.odds(43, 2, 6), 1, 2);
        told(x, "odds(42, 1, 6)", x.odds(42, 1, 6), 1, 1);
        told(x, "odds(7, 6, 1)", x.odds(7, 6, 1), 248832 - 161051, 248832);
        told(x, "odds(1, 6, 1)", x.odds(1, 6, 1), 2985984 - 1771561, 2985984);
        int[][] bad = {{-1, 0, 0}, {7993, 0, 0}, {0, -1, 0}, {0, 7, 0}, {0, 0, -1}, {0, 0, 13}};
        for (int[] b : bad) {
            Check.due("odds BAD", x.odds(b[0], b[1], b[2]), -1);
        }
        Check.due("upper stays", x.upper(), 2985984 - 1771561);
        Check.due("nothing is done", x.count(4), 60);
    }

    private static void mid() {
        ClubSmoke x = sixty();
        told(x, "mid(0, 7)", x.mid(0, 7), 60, 1);
        told(x, "mid(1, 12)", x.mid(1, 12), 60, 1);
        told(x, "mid(1, 0)", x.mid(1, 0), 42, 1);
        told(x, "mid(1, 6)", x.mid(1, 6), 51, 1);
        told(x, "mid(1, 5)", x.mid(1, 5), 99, 2);
        told(x, "mid(2, 6)", x.mid(2, 6), 97, 2);
        told(x, "mid(2, 1)", x.mid(2, 1), 2527, 72);
        Check.due("asked is not told", x.asked(), 0);
        ClubSmoke y = Check.club("p93 v0");
        told(y, "0 by 1", y.mid(6, 5), 0, 1);
        int[][] bad = {{-1, 0}, {7, 0}, {0, -1}, {0, 13}};
        for (int[] b : bad) {
            Check.due("mid BAD", x.mid(b[0], b[1]), -1);
        }
    }

    /** The same by calls, with lots drawn here: only windows and thunder without smoke have none. */
    private static void lots() {
        for (int seed = 1; seed < 400; seed++) {
            ClubSmoke x = Check.club("p35 m0b1y1f2a4v1");
            ClubSmoke y = Check.club("p35 m0b1y1f2a4v1");
            int n = 1 + seed % 20;
            int skipped = 0;
            long lot = seed;
            for (int k = 0; k < n; k++) {
                lot = lot * 48271 % 2147483647;
                int what = (int) (lot / 8 % 8);
                int answer = 0;
                if (what == 0) {
                    answer = y.hour();
                } else if (what == 1) {
                    answer = y.open((int) (lot % 5));
                } else if (what == 2) {
                    answer = y.thunder();
                } else {
                    answer = y.talk((int) (lot % 6), (int) (lot / 64 % 100));
                }
                skipped += answer == -4 ? 1 : 0;
            }
            Check.due("lots(" + n + ", " + seed + ")", x.lots(n, seed), y.count(4));
            Check.due("each is a deed", x.count(3), n);
            Check.due("what can be done is", y.count(3), n - skipped);
            for (int what : new int[] {2, 4, 5, 6}) {
                Check.due("count(" + what + ")", x.count(what), y.count(what));
            }
            Check.due("undone", x.undo(0), n);
            Check.due("nothing hangs", x.count(4), 0);
        }
    }

    private static void lotsFull() {
        ClubSmoke x = Check.club("p35 m0b1y1f2a4v1");
        Check.due("lots(0, 1)", x.lots(0, 1), -1);
        Check.due("lots(21, 1)", x.lots(21, 1), -1);
        Check.due("lots(1, 0)", x.lots(1, 0), -1);
        Check.due("lots(1, MAX)", x.lots(1, 2147483647), -1);
        Check.due("lots(1, MIN)", x.lots(1, Integer.MIN_VALUE), -1);
        Check.holds("lots(20, 2147483646)", x.lots(20, 2147483646) >= 0);
        Check.holds("lots(19, 1)", x.lots(19, 1) >= 0);
        long before = x.digest();
        Check.due("lots(2, 1)", x.lots(2, 1), -2);
        Check.due("BAD ahead of FULL", x.lots(2, 0), -1);
        Check.due("FULL changes nothing", x.digest(), before);
        Check.holds("lots(1, 1)", x.lots(1, 1) >= 0);
        Check.due("40 deeds", x.count(3), 40);
        Check.due("lots(1, 1)", x.lots(1, 1), -2);
    }

    private static void withoutMembers() {
        ClubSmoke x = new ClubSmoke();
        Check.due("evening", x.evening(0, 0), -4);
        Check.due("evening, BAD ahead", x.evening(0, 3), -1);
        Check.due("odds", x.odds(0, 0, 0), -4);
        Check.due("odds, BAD ahead", x.odds(-1, 0, 0), -1);
        Check.due("mid", x.mid(0, 0), -4);
        Check.due("mid, BAD ahead", x.mid(0, 13), -1);
        Check.due("lots", x.lots(1, 1), -4);
        Check.due("lots, BAD ahead", x.lots(0, 1), -1);
        Check.due("upper", x.upper(), 0);
        Check.due("lower", x.lower(), 1);
    }
}
