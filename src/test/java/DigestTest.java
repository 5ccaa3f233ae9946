/** Promise 50: the checksum, reckoned anew from the answers of the other calls, at each stage of a terminal. */
public final class DigestTest {
    private static final Check CHECK = new Check("DigestTest");

    public static void main(String[] args) {
        Stevedore x = new Stevedore();
        same("new", x, false);
        CHECK.same("new: digest()", 1596391921176664L, x.digest());
        x.addVessel(60, 3, 2, 2);
        x.addVessel(0, 2, 1, 1);
        x.addStack(2);
        x.addStack(3);
        same("empty vessels", x, false);
        int[][] containers = {{0, 0, 10}, {0, 2, 18}, {1, 1, 9}, {1, 1, 30}, {0, 0, 12}, {1, 0, 11}};
        for (int c = 0; c < containers.length; c++) {
            x.addContainer(containers[c][0], containers[c][1], c % 3 == 1, containers[c][2], 2 + c);
        }
        same("containers", x, false);
        CHECK.same("plan()", 0, x.plan());
        same("plan", x, false);
        x.setRoom(4, 0);
        x.setRoom(5, 0);
        x.setRoom(6, 0);
        CHECK.holds("giveSlots()", x.giveSlots() > 0);
        same("slots", x, true);
        for (int i = 1; i <= x.events(); i++) {
            CHECK.same("work(1)", i, x.work(1));
            same("behind " + i + " events", x, true);
        }
        x.addStack(1);
        same("a stack more", x, true);
        x.setWish(0, 0);
        same("another wish", x, false);
        x.setCranes(1);
        same("fewer cranes", x, false);
        CHECK.same("plan() that cannot be", -1, x.plan());
        same("no plan", x, false);
        CHECK.end();
    }

    private static void same(String what, Stevedore x, boolean hasSlots) {
        CHECK.same(what + ": digest()", reckoned(x, hasSlots), x.digest());
        CHECK.same(what + ": digest() again", x.digest(), x.digest());
    }

    private static long reckoned(Stevedore x, boolean hasSlots) {
        long d = with(58024, x.vessels(), x.containers(), x.stacks());
        for (int v = 0; v < x.vessels(); v++) {
            d = with(d, x.ranges(v));
            for (int r = 0; r < x.ranges(v); r++) {
                d = with(d, x.firstBay(v, r));
            }
            d = with(d, x.load(v), x.handling(v), x.waits(v));
            int bays = v == 0 ? 3 : 2;
            for (int b = 0; b < bays; b++) {
                d = with(d, x.work(v, b), x.beginOf(v, b), x.endOf(v, b));
            }
        }
        d = with(d, x.isPlanned() ? 1 : 0);
        for (int p = 0; x.isPlanned() && p < x.vessels(); p++) {
            d = with(d, x.orderAt(p));
        }
        for (int v = 0; x.isPlanned() && v < x.vessels(); v++) {
            d = with(d, x.startOf(v), x.placeOf(v));
        }
        for (int c = 0; x.isPlanned() && c < x.containers(); c++) {
            d = with(d, x.movedAt(c));
        }
        for (int c = 0; hasSlots && c < x.containers(); c++) {
            d = with(d, x.slotOf(c));
        }
        d = with(d, x.events());
        for (int e = 0; e < x.events(); e++) {
            d = with(d, x.timeOf(e), x.kindOf(e), x.containerOf(e));
        }
        for (int c = 0; c < x.containers(); c++) {
            d = with(d, x.stateOf(c), x.stackOf(c));
        }
        for (int s = 0; s < x.stacks(); s++) {
            d = with(d, x.heightOf(s));
            for (int level = 0; level < x.heightOf(s); level++) {
                d = with(d, x.containerAt(s, level));
            }
        }
        return with(d, x.reshuffles(), x.blocking());
    }

    private static long with(long start, int... numbers) {
        long d = start;
        for (int x : numbers) {
            d = d * 31 + x;
        }
        return d;
    }
}
