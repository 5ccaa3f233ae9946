/** Promises 13 to 20: how cranes go over a vessel. */
public final class CranesTest {
    private static final Check CHECK = new Check("CranesTest");

    public static void main(String[] args) {
        oneEmptyBay();
        oneCraneOverFiveBays();
        cranesBesideEachOther();
        exampleOfTwoRanges();
        fewestRanges();
        shortestFirstRanges();
        rangesAsManyAsWanted();
        aChainOfWaits();
        entersBesideOneThatIsAheadOnly();
        thingsThatAreNotThere();
        CHECK.end();
    }

    /** A terminal with one vessel; in each bay so many containers. */
    private static Stevedore vessel(int cranes, int... containers) {
        Stevedore x = new Stevedore();
        x.addVessel(0, containers.length, 1, cranes);
        for (int b = 0; b < containers.length; b++) {
            for (int i = 0; i < containers[b]; i++) {
                x.addContainer(0, b, i % 2 == 0, 1, 0);
            }
        }
        return x;
    }

    private static void firstBays(String what, Stevedore x, int... due) {
        CHECK.same(what + ": ranges(0)", due.length, x.ranges(0));
        for (int r = 0; r < Math.min(due.length, x.ranges(0)); r++) {
            CHECK.same(what + ": firstBay(0, " + r + ")", due[r], x.firstBay(0, r));
        }
    }

    private static void begins(String what, Stevedore x, int... due) {
        for (int b = 0; b < due.length; b++) {
            CHECK.same(what + ": beginOf(0, " + b + ")", due[b], x.beginOf(0, b));
            int ticks = x.work(0, b) == 0 ? 1 : x.work(0, b);
            CHECK.same(what + ": endOf(0, " + b + ")", due[b] + ticks, x.endOf(0, b));
        }
    }

    private static void sums(String what, Stevedore x, int load, int handling, int waits) {
        CHECK.same(what + ": load(0)", load, x.load(0));
        CHECK.same(what + ": handling(0)", handling, x.handling(0));
        CHECK.same(what + ": waits(0)", waits, x.waits(0));
    }

    private static void oneEmptyBay() {
        Stevedore x = vessel(4, 0);
        CHECK.same("work(0, 0)", 0, x.work(0, 0));
        firstBays("one bay", x, 0);
        begins("one bay", x, 0);
        CHECK.same("one bay: endOf(0, 0)", 1, x.endOf(0, 0));
        sums("one bay", x, 1, 1, 0);
    }

    private static void oneCraneOverFiveBays() {
        Stevedore x = vessel(1, 0, 2, 0, 0, 1);
        CHECK.same("work(0, 1)", 4, x.work(0, 1));
        CHECK.same("work(0, 4)", 2, x.work(0, 4));
        firstBays("one crane", x, 0);
        // A bay takes its work, or 1; going out takes a tick more.
        begins("one crane", x, 0, 2, 7, 9, 11);
        sums("one crane", x, 1 + 4 + 1 + 1 + 2 + 4, 13, 0);
    }

    private static void cranesBesideEachOther() {
        Stevedore x = vessel(4, 0, 0, 0);
        firstBays("three bays", x, 0, 1, 2);
        // The middle crane waits for the last one; the first one need not, as the middle one is ahead only.
        begins("three bays", x, 0, 1, 0);
        sums("three bays", x, 1, 2, 1);
    }

    private static void exampleOfTwoRanges() {
        Stevedore x = vessel(2, 2, 0, 1);
        firstBays("two ranges", x, 0, 1);
        begins("two ranges", x, 1, 0, 2);
        sums("two ranges", x, 4, 5, 1);
    }

    private static void fewestRanges() {
        firstBays("heavy first bay", vessel(4, 10, 0, 0), 0, 1);
        CHECK.same("heavy first bay: load(0)", 20, vessel(4, 10, 0, 0).load(0));
        firstBays("heavy bay in the middle", vessel(4, 0, 10, 0), 0, 1, 2);
        CHECK.same("heavy bay in the middle: load(0)", 20, vessel(4, 0, 10, 0).load(0));
        firstBays("heavy bay in the middle, 2 cranes", vessel(2, 0, 10, 0), 0, 1);
        CHECK.same("heavy bay in the middle, 2 cranes: load(0)", 22, vessel(2, 0, 10, 0).load(0));
        firstBays("two light bays beside a heavy one", vessel(3, 0, 0, 6), 0, 2);
        CHECK.same("two light bays beside a heavy one: load(0)", 12, vessel(3, 0, 0, 6).load(0));
    }

    private static void shortestFirstRanges() {
        firstBays("three bays, two cranes", vessel(2, 0, 0, 0), 0, 1);
        CHECK.same("three bays, two cranes: load(0)", 3, vessel(2, 0, 0, 0).load(0));
        firstBays("five bays, three cranes", vessel(3, 0, 0, 0, 0, 0), 0, 1, 3);
        firstBays("ten bays, four cranes", vessel(4, 0, 0, 0, 0, 0, 0, 0, 0, 0, 0), 0, 1, 4, 7);
        firstBays("four bays, two cranes", vessel(2, 0, 0, 0, 0), 0, 2);
        // 4 bays without work are 7 together, as each but the first counts 1 more.
        firstBays("heavy at the end", vessel(2, 0, 0, 0, 0, 3), 0, 4);
        CHECK.same("heavy at the end: load(0)", 7, vessel(2, 0, 0, 0, 0, 3).load(0));
    }

    private static void rangesAsManyAsWanted() {
        // A third crane would not make the greatest load less.
        int[] due = {1, 2, 2, 4};
        for (int cranes = 1; cranes <= 4; cranes++) {
            CHECK.same(cranes + " cranes: ranges(0)", due[cranes - 1], vessel(cranes, 1, 1, 1, 1).ranges(0));
        }
        Stevedore x = vessel(2, 1, 1, 1, 1);
        CHECK.same("load(0)", 5, x.load(0));
        x.setVessel(0, 0, 4);
        CHECK.same("load(0) with 4 cranes", 2, x.load(0));
        x.addContainer(0, 2, true, 1, 1);
        CHECK.same("load(0) with one more", 4, x.load(0));
        CHECK.same("work(0, 2) with one more", 4, x.work(0, 2));
        CHECK.same("ranges(0) with one more", 4, x.ranges(0));
        x.addContainer(0, 2, true, 1, 1);
        CHECK.same("load(0) with two more", 6, x.load(0));
        firstBays("with two more", x, 0, 2, 3);
    }

    private static void aChainOfWaits() {
        Stevedore x = vessel(4, 2, 2, 2, 2);
        firstBays("four heavy bays", x, 0, 1, 2, 3);
        // 3 and 1 are entered at once; 2 waits for 3 and 0 for 1, both in ticks 0 to 3.
        begins("four heavy bays", x, 4, 0, 4, 0);
        sums("four heavy bays", x, 4, 8, 8);
    }

    private static void entersBesideOneThatIsAheadOnly() {
        Stevedore x = vessel(3, 3, 1, 3);
        firstBays("a light bay between", x, 0, 1, 2);
        begins("a light bay between", x, 0, 6, 0);
        sums("a light bay between", x, 6, 8, 6);
        Stevedore run2 = new Stevedore();
        run2.addVessel(0, 6, 1, 4);
        int[] bays = {5, 4, 3, 3};
        for (int b : bays) {
            run2.addContainer(0, b, false, 1, 0);
        }
        firstBays("six bays", run2, 0, 3, 4);
        sums("six bays", run2, 5, 7, 4);
    }

    private static void thingsThatAreNotThere() {
        Stevedore x = vessel(2, 0, 0, 0);
        int[] noVessel = {-1, 1, 6, Integer.MIN_VALUE, Integer.MAX_VALUE};
        for (int v : noVessel) {
            CHECK.noIndex("work(" + v + ", 0)", () -> x.work(v, 0));
            CHECK.noIndex("ranges(" + v + ")", () -> x.ranges(v));
            CHECK.noIndex("firstBay(" + v + ", 0)", () -> x.firstBay(v, 0));
            CHECK.noIndex("load(" + v + ")", () -> x.load(v));
            CHECK.noIndex("beginOf(" + v + ", 0)", () -> x.beginOf(v, 0));
            CHECK.noIndex("endOf(" + v + ", 0)", () -> x.endOf(v, 0));
            CHECK.noIndex("handling(" + v + ")", () -> x.handling(v));
            CHECK.noIndex("waits(" + v + ")", () -> x.waits(v));
        }
        int[] noBay = {-1, 3, 10, Integer.MIN_VALUE, Integer.MAX_VALUE};
        for (int b : noBay) {
            CHECK.noIndex("work(0, " + b + ")", () -> x.work(0, b));
            CHECK.noIndex("beginOf(0, " + b + ")", () -> x.beginOf(0, b));
            CHECK.noIndex("endOf(0, " + b + ")", () -> x.endOf(0, b));
        }
        int[] noRange = {-1, 2, 4, Integer.MIN_VALUE, Integer.MAX_VALUE};
        for (int r : noRange) {
            CHECK.noIndex("firstBay(0, " + r + ")", () -> x.firstBay(0, r));
        }
    }
}
