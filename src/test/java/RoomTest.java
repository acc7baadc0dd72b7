import com.sun.management.ThreadMXBean;
import java.lang.management.ManagementFactory;

/** All calls of a run live in one room: an object is small, and the dearest calls make nothing. */
public final class RoomTest {
    private static final ThreadMXBean COUNTER = (ThreadMXBean) ManagementFactory.getThreadMXBean();
    /** With what fullBar takes these stay below the 512 calls of an object. */
    private static final int BARS = 40;
    private static final int ROUNDS = 10;
    private static final int TOSSES = 350;

    private RoomTest() {
    }

    private static long made() {
        return COUNTER.getThreadAllocatedBytes(Thread.currentThread().getId());
    }

    public static void main(String[] args) {
        objectIsSmall();
        callsMakeNothing();
        tossesMakeLittle();
        Check.finish();
    }

    private static void objectIsSmall() {
        new CandleBar();
        long before = made();
        CandleBar x = new CandleBar();
        long bytes = made() - before;
        Check.isTrue("an object takes " + bytes + " bytes", bytes < 40000 && x.count(0) == 0);
    }

    private static CandleBar fullBar() {
        CandleBar x = new CandleBar();
        for (int k = 0; k < 12; k++) {
            x.light(k % 8, 100 + 50 * k, 8 * k, 150);
        }
        for (int k = 0; k < 29; k++) {
            x.match(k % 12, (k + 1) % 12, k % 8, k);
        }
        x.standard(0);
        for (int k = 0; k < 20; k++) {
            x.bill(k % 4, k % 12, 1 + k);
        }
        Check.write(x, 0, "[(g*3+s)/2-[h,w*(d+y)],((((1+t))))]");
        x.rule(0);
        x.keep(1, 1, 7);
        Check.fill(x, 2, Check.BYTES, 0, 1, 2, 3, 4);
        return x;
    }

    private static long callAll(CandleBar x) {
        long sum = x.of(3, 5) + x.seen(2, 1, 9) + x.alike(1, 2, 3, 4) + x.chain(0, 4, -1) + x.span(0, 4, 2, 0);
        sum += x.laws(1, 3, 5) + x.parts(1, 3, 0, 1) + x.show(1, 3) + x.disagree(0, 1, 2, 3, 4) + x.mean(255, 0);
        sum += x.stands(255, 0, 1) + x.fault(0) + x.rule(0) + x.right(3) + x.worth(4) + x.steady(4095) + x.aged(5);
        sum += x.owed(1) + x.gain(3, 10003, 20, 5, true) + x.best(10003, 20, 0, 1) + x.narrows() + x.image() + x.restore();
        sum += x.count(5) + x.keep(1, 1, 7) + x.row(3, 2, 100) + x.put(3, 99, 7) + x.copy(3, 0, 3, 1, 99) + x.gives(1);
        sum += x.hear(2) + x.told(3, 4) + x.out(28, true) + x.element(3, 0);
        return sum;
    }

    private static void callsMakeNothing() {
        CandleBar[] bars = new CandleBar[BARS];
        for (int k = 0; k < BARS; k++) {
            bars[k] = fullBar();
        }
        callAll(fullBar());
        long before = made();
        long sum = 0;
        for (CandleBar x : bars) {
            for (int k = 0; k < ROUNDS; k++) {
                sum += callAll(x);
            }
        }
        long bytes = made() - before;
        Check.isTrue("calls made " + bytes + " bytes (" + sum + ")", bytes < 4096);
    }

    private static void tossesMakeLittle() {
        CandleBar x = fullBar();
        long before = made();
        for (int k = 0; k < TOSSES; k++) {
            Check.due("toss", x.toss(1), 107);
        }
        long bytes = made() - before;
        Check.isTrue("tosses made " + bytes + " bytes", bytes < TOSSES * 2000L);
    }
}
