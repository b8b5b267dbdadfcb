import com.sun.management.ThreadMXBean;
import java.lang.management.ManagementFactory;

/** All calls of a run live in one room: an object takes its own when it is made, no call takes more. */
public final class RoomTest {
    private static final ThreadMXBean BEAN = (ThreadMXBean) ManagementFactory.getThreadMXBean();

    public static void main(String[] args) {
        long before = BEAN.getCurrentThreadAllocatedBytes();
        TouchedLamps x = Due.walled(Due.MIXED);
        long made = BEAN.getCurrentThreadAllocatedBytes() - before;
        Due.due("a new object is small: " + made + " bytes", made < 100_000 ? 1 : 0, 1);
        for (int round = 0; round < 3; round++) {
            allCalls(x);
        }
        before = BEAN.getCurrentThreadAllocatedBytes();
        for (int round = 0; round < 20; round++) {
            allCalls(x);
        }
        long taken = BEAN.getCurrentThreadAllocatedBytes() - before;
        Due.due("calls take no room: " + taken + " bytes", taken < 4_000 ? 1 : 0, 1);
        Due.end();
    }

    private static long allCalls(TouchedLamps x) {
        long sum = x.row(0, 40) + x.lay(0, 3, 4) + x.at(0, 3) + x.copy(0, 0, 0, 5, 9) + x.mean(0) + x.tear(0);
        sum += x.text(1, 60) + x.put(1, 3, 4) + x.fault(0) + x.wall(0) + x.lamp(4, 5) + x.mark(4, 4);
        sum += x.press(4) + x.set(1, 1) + x.crack(4) + x.keep(0) + x.lots(20, 7) + x.on(0) + x.undo(1);
        sum += x.row(1, 20) + x.touched(4, 2, 1, 9) + x.shows(1) + x.most() + x.row(2, 8);
        sum += x.fewest(0, 3) + x.fewest(42, 3) + x.ways(0) + x.sure(0) + x.which(0) + x.kinds(4, 2) + x.next(4, 2);
        sum += x.sums(3) + x.duel(85, 2) + x.odds(4, 42, 5) + x.mid(4, 5) + x.asked() + x.upper() + x.lower();
        for (int what = 0; what <= 10; what++) {
            sum += x.count(what);
        }
        return sum + x.finding() + x.findings(1) + x.digest();
    }
}
