import com.sun.management.ThreadMXBean;
import java.lang.management.ManagementFactory;

/** All calls of a run live in one room: an object is small, and its calls make nothing. */
public final class RoomTest {
    private static final ThreadMXBean THREADS = (ThreadMXBean) ManagementFactory.getThreadMXBean();

    private RoomTest() {
    }

    private static long bytes() {
        return THREADS.getThreadAllocatedBytes(Thread.currentThread().getId());
    }

    public static void main(String[] args) {
        if (!THREADS.isThreadAllocatedMemorySupported()) {
            Due.due("this machine can't count", 0, 0);
            Due.end();
            return;
        }
        dearCalls(full(), 1);
        long ahead = bytes();
        CoatsByLot x = full();
        long made = bytes() - ahead;
        Due.due("an object of " + made + " bytes is below 20000", made < 20000 ? 1 : 0, 1);
        ahead = bytes();
        dearCalls(x, 20);
        long used = bytes() - ahead;
        Due.due("calls that made " + used + " bytes make none", used < 1000 ? 1 : 0, 1);
        Due.end();
    }

    /** As much of all as there can be. */
    private static CoatsByLot full() {
        CoatsByLot x = Due.withStations(8);
        for (int line = 0; line < 4; line++) {
            x.line(0, 1, 1);
            for (int i = 2; i < 6; i++) {
                x.extend(line, i, 1);
            }
        }
        for (int train = 0; train < 12; train++) {
            x.train(train % 4, 10 * train, 0);
        }
        for (int shift = 0; shift < 8; shift++) {
            x.shift(1 << shift);
            x.lots(shift, 1);
        }
        for (int group = 0; group < 16; group++) {
            x.group(300 + group % 12, 5, 999, 19);
        }
        return x;
    }

    private static void dearCalls(CoatsByLot x, int times) {
        for (int i = 0; i < times; i++) {
            x.feed(0x702a673c712a66L, 7);
            x.text(0);
            x.best(5, -1);
            x.plan(5);
            x.turn(0);
            x.turn(99999);
            x.gate(0, 5);
            x.fair(1);
            x.unpaid();
            x.seen(11, 50);
            x.walked(4095);
            x.check(7);
            x.image();
            x.days(9);
            x.telling(0, 0, 600, 1);
            x.voice(3, 3, 3);
            x.sheet(0, 32, 40);
            x.groups(0);
            x.restore();
            x.coin(0);
            x.wrong(5, 1);
        }
    }
}
