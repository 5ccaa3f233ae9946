import com.sun.management.ThreadMXBean;
import java.lang.management.ManagementFactory;

/** All calls of a run live in one room: an object is made once, and its calls make nothing but exceptions. */
public final class RoomTest {
    private static final Check CHECK = new Check("RoomTest");
    private static final ThreadMXBean THREADS = (ThreadMXBean) ManagementFactory.getThreadMXBean();
    private static final int MOST_CALLS = 512;

    public static void main(String[] args) {
        // Once ahead of the count, so that classes are loaded.
        fullTerminal();
        allCalls(fullTerminal(), 20);
        long before = made();
        Stevedore x = fullTerminal();
        long object = made() - before;
        before = made();
        allCalls(x, MOST_CALLS);
        long calls = made() - before;
        System.out.println("RoomTest: an object takes " + object + " bytes, " + MOST_CALLS + " calls " + calls);
        CHECK.holds("an object is small", object > 0 && object < 20000);
        CHECK.holds("calls make nothing", calls < 2000);
        CHECK.end();
    }

    private static long made() {
        return THREADS.getThreadAllocatedBytes(Thread.currentThread().getId());
    }

    private static Stevedore fullTerminal() {
        Stevedore x = new Stevedore();
        for (int v = 0; v < 6; v++) {
            x.addVessel(20 * v, 10, 1 + v, 1 + v % 3);
        }
        for (int s = 0; s < 12; s++) {
            x.addStack(1 + s % 5);
        }
        for (int c = 0; c < 24; c++) {
            x.addContainer(c % 6, c % 10, c % 2 == 0, 1 + c, c % 16);
        }
        return x;
    }

    private static void allCalls(Stevedore x, int most) {
        for (int i = 0; i < most; i++) {
            switch (i % 16) {
                case 0 -> x.plan();
                case 1 -> x.giveSlots();
                case 2 -> x.delayIf(i % 6, i % 401);
                case 3 -> x.costIf(i % 16, i % 7);
                case 4 -> x.work(11);
                case 5 -> x.inTheEnd(i % 4);
                case 6 -> x.tidy(9);
                case 7 -> x.digest();
                case 8 -> x.wouldTake(i % 24);
                case 9 -> x.delayByNumbers();
                case 10 -> x.blocking();
                case 11 -> x.meanWait();
                case 12 -> x.vesselAt(i % 20, i);
                case 13 -> x.setWish(i % 24, i % 16);
                case 14 -> x.setVessel(i % 6, i % 401, 1 + i % 3);
                default -> x.setQuay(20 + i % 41);
            }
        }
    }
}
