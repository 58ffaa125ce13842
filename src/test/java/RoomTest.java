import com.sun.management.ThreadMXBean;
import java.lang.management.ManagementFactory;

/** The room of a run: an object takes little of it, and no call takes any. */
final class RoomTest {
    private static final int ROUNDS = 2000;

    private RoomTest() {
    }

    public static void main(String[] args) {
        ThreadMXBean bean = (ThreadMXBean) ManagementFactory.getThreadMXBean();
        long sum = 0;
        ClubSmoke[] made = new ClubSmoke[100];
        new ClubSmoke();
        bean.getCurrentThreadAllocatedBytes();
        long before = bean.getCurrentThreadAllocatedBytes();
        for (int k = 0; k < made.length; k++) {
            made[k] = new ClubSmoke();
        }
        long each = (bean.getCurrentThreadAllocatedBytes() - before) / made.length;
        Check.holds("an object takes at most 8000 bytes, but took " + each, each <= 8000);
        ClubSmoke x = Check.club("p35 m0b1y1f2a4v1");
        sum += all(x);
        before = bean.getCurrentThreadAllocatedBytes();
        for (int k = 0; k < ROUNDS; k++) {
            sum += all(x);
        }
        long calls = bean.getCurrentThreadAllocatedBytes() - before;
        Check.holds("calls make nothing, but made " + calls + " bytes in " + ROUNDS + " rounds", calls < ROUNDS);
        Check.holds("calls were made", sum != 0);
        Check.end();
    }

    private static long all(ClubSmoke x) {
        long s = x.row(0, 40) + x.lay(0, 3, 3) + x.at(0, 3) + x.copy(0, 0, 0, 3, 20) + x.mean(0) + x.leaks(0);
        s += x.text(1, 60) + x.put(1, 3, 3) + x.fault(1) + x.fault(0) + x.club(0) + x.club(1) + x.member(0, 2);
        for (int k = 1; k <= 5; k++) {
            s += x.mark(k, k);
        }
        s += x.smoke(0) + x.talk(1, 99) + x.talk(5, 99) + x.hour() + x.open(1) + x.keep(0) + x.thunder() + x.undo(2);
        s += x.on(0) + x.lots(20, 5) + x.says(0, 9) + x.breathes(0, 9) + x.means(0, 9) + x.least(0, 9) + x.hangs(0, 9);
        s += x.clear() + x.window(0) + x.talks(99, 2, 999, 1) + x.talks(99, 2, 3, 1) + x.sets(47, 24) + x.sure(47, 24);
        s += x.ask(47, 24) + x.row(2, 16) + x.who(2) + x.kinds(2) + x.test(2) + x.evening(99, 2) + x.odds(9, 6, 5);
        s += x.mid(6, 5) + x.asked() + x.upper() + x.lower() + x.finding() + x.findings(1) + x.digest() + x.tear(2);
        for (int what = 0; what <= 12; what++) {
            s += x.count(what);
        }
        return s;
    }
}
