import com.sun.management.ThreadMXBean;
import java.lang.management.ManagementFactory;

/** All calls of a run live in one room: what the constructor makes is used again, and calls make nothing. */
public final class RoomNeededTest {
    private static final Due d = new Due();
    private static final ThreadMXBean THREADS = (ThreadMXBean) ManagementFactory.getThreadMXBean();

    private static long made() {
        return THREADS.getThreadAllocatedBytes(Thread.currentThread().getId());
    }

    public static void main(String[] args) {
        new AcidCity();
        long before = made();
        AcidCity x = new AcidCity();
        long forOne = made() - before;
        d.eq("an object needs " + forOne + " bytes", forOne < 80000 ? 1 : 0, 1);
        fill(x);
        work(x);
        before = made();
        int sum = 0;
        for (int i = 0; i < 20; i++) {
            sum += work(x);
        }
        long forCalls = made() - before;
        d.eq("calls need " + forCalls + " bytes, sum " + sum, forCalls < 4000 ? 1 : 0, 1);
        d.end();
    }

    private static void fill(AcidCity x) {
        for (int i = 0; i < 20; i++) {
            x.cell(9);
            x.air(i, 0, 900000);
            x.gauge(i, i % 2, 30);
        }
        for (int i = 0; i < 24; i++) {
            x.lock(i % 20, (i + 1) % 20, 9);
            x.person(30, i % 4, i % 20);
            x.turn(i, i, 1);
            x.work(i % 3 == 0 ? 1 : 2, i % 20, 5, 9, i % 3 == 0 ? 9000 : 0);
        }
        for (int i = 0; i < 7; i++) {
            x.build(i + 1, i + 1, 0);
        }
        for (int i = 0; i < 10; i++) {
            x.lot(i + 1, i + 1);
        }
        x.ship(9999, 1, 1);
    }

    private static int work(AcidCity x) {
        int sum = x.keep();
        x.feed(0x73686172, 0x65202861, 0x2b632a73);
        x.feed(0x29202020, 0x20202020, 0x20202020);
        sum += x.text() + x.hold(0) + x.say(0, 1) + x.tally();
        sum += x.run(120) + x.order(9) + x.enough() + x.share(3, 500) + x.shed();
        sum += x.worst(3, 0) + x.copy(0, 1, 2, 3, 4) + x.find(1) + x.lack(48, 9) + x.sewn(48, 9, 0, 3);
        sum += x.dark(24, 300) + x.load(24, 300, 3) + x.window(0) + x.cargo(30) + x.plan(60, 20000) + x.planned(60, 1);
        x.tell(300);
        sum += x.check(0, 24, 300);
        x.tell(300);
        sum += x.check(1, 24, 300);
        x.tell(300);
        sum += x.check(2, 24, 300);
        return sum + x.back();
    }
}
