import java.util.ArrayList;
import java.util.List;

/** Promises 41 to 47: what is told. */
final class ToldTest {
    private ToldTest() {
    }

    public static void main(String[] args) {
        asked();
        upperAndLower();
        count();
        findings();
        digest();
        Check.end();
    }

    private static void asked() {
        ClubSmoke x = Check.club("p35 m0b1y1f2a4v1");
        Check.due("before", x.asked(), 0);
        x.row(0, 2);
        x.lay(0, 0, 77);
        Check.due("lay", x.asked(), 0);
        x.at(0, 0);
        Check.due("at", x.asked(), 77);
        x.mean(0);
        Check.due("mean", x.asked(), 38);
        x.member(4, 0);
        Check.due("member", x.asked(), 4);
        x.means(0, 3);
        Check.due("means", x.asked(), 6);
        x.talk(5, 50);
        x.window(0);
        Check.due("window", x.asked(), 2);
        x.sets(47, 7);
        Check.due("sets", x.asked(), 4);
        x.sure(47, 7);
        Check.due("sure", x.asked(), 1 + 2 + 16 + 32);
        x.ask(47, 7);
        Check.due("ask", x.asked(), 1);
        x.row(0, 0);
        x.test(0);
        Check.due("test", x.asked(), 2);
        quiet(x);
        Check.due("others tell nothing", x.asked(), 2);
        x.club(0);
        Check.due("nor a club", x.asked(), 2);
    }

    private static void quiet(ClubSmoke x) {
        Check.fill(x, 1, 8, 8);
        x.test(0);
        x.copy(1, 0, 1, 1, 1);
        x.row(3, 7);
        x.tear(3);
        x.text(3, 7);
        x.put(3, 0, 7);
        x.fault(0);
        x.mark(5, 5);
        x.smoke(0);
        x.talk(0, 9);
        x.hour();
        x.open(0);
        x.thunder();
        x.keep(0);
        x.undo(1);
        x.on(0);
        x.says(0, 9);
        x.breathes(0, 9);
        x.least(0, 9);
        x.hangs(0, 9);
        x.clear();
        x.talks(99, 0, 3, 3);
        x.row(3, 0);
        x.who(3);
        x.kinds(3);
        x.leaks(1);
        x.evening(9, 2);
        x.odds(9, 3, 3);
        x.mid(3, 3);
        x.lots(3, 3);
        x.count(3);
        x.findings(3);
        x.finding();
        x.digest();
    }

    private static void upperAndLower() {
        ClubSmoke x = Check.club("p35 m0b1y1f2a4v1");
        Check.due("upper before", x.upper(), 0);
        Check.due("lower before", x.lower(), 1);
        x.talk(0, 80);
        x.mid(1, 5);
        Check.due("upper", x.upper(), 153);
        Check.due("lower", x.lower(), 4);
        x.sets(47, 24);
        Check.due("upper", x.upper(), 4);
        Check.due("lower", x.lower(), 1);
        x.odds(40, 1, 5);
        Check.due("upper", x.upper(), 5);
        Check.due("lower", x.lower(), 12);
        x.sure(47, 24);
        x.ask(47, 24);
        x.mean(0);
        x.club(0);
        Check.due("upper stays", x.upper(), 5);
        Check.due("lower stays", x.lower(), 12);
    }

    private static void count() {
        ClubSmoke x = Check.club("p37 m0b1y1f2a4v1");
        x.row(0, 0);
        x.row(5, 3);
        x.text(2, 0);
        x.keep(1);
        x.talk(0, 99);
        x.hour();
        x.thunder();
        x.talk(3, 50);
        x.talk(5, 50);
        int[] due = {6, 7, 1, 5, 50, 47, 99, 3, 2, 2, 2, 2, 1};
        for (int what = 0; what < due.length; what++) {
            Check.due("count(" + what + ")", x.count(what), due[what]);
        }
        Check.due("count(13)", x.count(13), -1);
        Check.due("count(-1)", x.count(-1), -1);
    }

    private static void findings() {
        ClubSmoke x = Check.club("p35 m0b1y1f2a4v1");
        Check.due("before", x.finding(), 0);
        for (int f = 1; f <= 5; f++) {
            Check.due("findings before", x.findings(f), 0);
        }
        x.row(0, 0);
        for (int k = 0; k < 2; k++) x.at(1, 0);
        for (int k = 0; k < 3; k++) x.at(0, 0);
        for (int k = 0; k < 4; k++) x.mark(0, 1);
        for (int k = 0; k < 5; k++) x.mean(0);
        Check.due("finding", x.finding(), 4);
        for (int k = 0; k < 6; k++) x.row(0, -1);
        Check.due("finding", x.finding(), 5);
        x.at(0, 0);
        for (int f = 1; f <= 5; f++) {
            Check.due("findings(" + f + ")", x.findings(f), f + 1 + (f == 2 ? 1 : 0));
        }
        Check.due("finding", x.finding(), 2);
        Check.due("findings(0)", x.findings(0), -1);
        Check.due("findings(6)", x.findings(6), -1);
        x.member(9, 9);
        x.open(0);
        x.club(0);
        Check.due("what is no finding", x.finding(), 2);
    }

    private static long mix(List<Integer> told) {
        long h = 17;
        for (int v : told) {
            h = 31 * h + v;
        }
        return h;
    }

    private static void digest() {
        ClubSmoke n = new ClubSmoke();
        List<Integer> fresh = new ArrayList<>();
        for (int k = 0; k < 13; k++) fresh.add(0);
        for (int k = 0; k < 3 + 6 + 4; k++) fresh.add(-1);
        Check.due("a new digest", n.digest(), mix(fresh));
        ClubSmoke x = Check.club("p33v1b2");
        Check.fill(x, 1, -5, 6);
        x.row(4, 0);
        x.text(3, 1);
        x.put(3, 0, 200);
        x.talk(0, 99);
        x.keep(2);
        x.talk(1, 40);
        x.hour();
        int[] due = {2, 3, 1, 3, 2 + 92 + 7, 0, 29, 3, 1, 1, 2, 2, 1,
            2, 92, 7,
            5, 1, 92, 1, 1, 2, 7, 1,
            -1, -1, 1,
            -1, 2, -5, 6, -1, -1, 0, -1,
            7, 112, 51, 51, 118, 49, 98, 50, -1, -1, 1, -56};
        List<Integer> told = new ArrayList<>();
        for (int v : due) told.add(v);
        int asked = x.asked();
        Check.due("digest", x.digest(), mix(told));
        Check.due("asked stays", x.asked(), asked);
    }
}
