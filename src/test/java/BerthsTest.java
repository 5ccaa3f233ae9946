/** Promises 21 to 29 and 49: who lies where and from when on. */
public final class BerthsTest {
    private static final Check CHECK = new Check("BerthsTest");

    public static void main(String[] args) {
        withoutVessels();
        withoutPlan();
        oneVessel();
        gapBetweenVessels();
        notEnoughCranes();
        starting();
        laterCranesCount();
        placeIsTheSmallestThatFits();
        rankDecides();
        latestEndDecides();
        smallerOrderDecides();
        laterOneInOrderGoesAheadInTime();
        cannotBePlanned();
        whatIf();
        thingsThatAreNotThere();
        meanOfWaits();
        CHECK.end();
    }

    /** A vessel of so many empty bays with one crane is handled in 2 * bays - 1 ticks. */
    private static void add(Stevedore x, int arrival, int bays, int rank) {
        int vessel = x.addVessel(arrival, bays, rank, 1);
        CHECK.same("handling(" + vessel + ")", 2 * bays - 1, x.handling(vessel));
    }

    private static void order(String what, Stevedore x, int... due) {
        for (int i = 0; i < due.length; i++) {
            CHECK.same(what + ": orderAt(" + i + ")", due[i], x.orderAt(i));
        }
    }

    private static void stays(String what, Stevedore x, int vessel, int start, int place) {
        CHECK.same(what + ": startOf(" + vessel + ")", start, x.startOf(vessel));
        CHECK.same(what + ": placeOf(" + vessel + ")", place, x.placeOf(vessel));
    }

    private static void withoutVessels() {
        Stevedore x = new Stevedore();
        CHECK.noState("plan() without vessels", () -> x.plan());
        CHECK.noState("delayByNumbers() without vessels", () -> x.delayByNumbers());
        CHECK.noIndex("delayIf(0, 0) without vessels", () -> x.delayIf(0, 0));
        CHECK.noIndex("delayIf(0, -1) without vessels", () -> x.delayIf(0, -1));
        CHECK.holds("no plan", !x.isPlanned());
    }

    private static void withoutPlan() {
        Stevedore x = new Stevedore();
        add(x, 0, 1, 1);
        CHECK.holds("no plan", !x.isPlanned());
        int[] all = {0, -1, 1, 20, Integer.MAX_VALUE};
        for (int i : all) {
            CHECK.noState("orderAt(" + i + ")", () -> x.orderAt(i));
            CHECK.noState("startOf(" + i + ")", () -> x.startOf(i));
            CHECK.noState("placeOf(" + i + ")", () -> x.placeOf(i));
            CHECK.noState("vesselAt(" + i + ", 0)", () -> x.vesselAt(i, 0));
            CHECK.noState("cranesAt(" + i + ")", () -> x.cranesAt(i));
        }
        CHECK.same("delayByNumbers() without a plan", 0, x.delayByNumbers());
        CHECK.same("delayIf(0, 9) without a plan", 0, x.delayIf(0, 9));
        CHECK.holds("still no plan", !x.isPlanned());
        CHECK.same("meanWait() without a plan", 0.0, x.meanWait());
    }

    private static void oneVessel() {
        Stevedore x = new Stevedore();
        x.addVessel(400, 3, 9, 2);
        CHECK.same("plan()", 0, x.plan());
        CHECK.holds("a plan", x.isPlanned());
        order("one vessel", x, 0);
        stays("one vessel", x, 0, 400, 0);
        int end = 400 + x.handling(0);
        int[] away = {399, end, -1, Integer.MIN_VALUE, Integer.MAX_VALUE};
        for (int time : away) {
            CHECK.same("vesselAt(0, " + time + ")", -1, x.vesselAt(0, time));
            CHECK.same("cranesAt(" + time + ")", 0, x.cranesAt(time));
        }
        int[] there = {400, end - 1};
        for (int time : there) {
            CHECK.same("vesselAt(0, " + time + ")", 0, x.vesselAt(0, time));
            CHECK.same("vesselAt(2, " + time + ")", 0, x.vesselAt(2, time));
            CHECK.same("vesselAt(3, " + time + ")", -1, x.vesselAt(3, time));
            CHECK.same("cranesAt(" + time + ")", 2, x.cranesAt(time));
        }
        CHECK.same("plan() again", 0, x.plan());
        CHECK.same("delayByNumbers()", 0, x.delayByNumbers());
    }

    private static void gapBetweenVessels() {
        Stevedore x = new Stevedore();
        x.setQuay(11);
        add(x, 0, 5, 1);
        add(x, 0, 5, 1);
        CHECK.same("plan() on 11 berths", 0, x.plan());
        stays("11 berths", x, 0, 0, 0);
        stays("11 berths", x, 1, 0, 6);
        CHECK.same("vesselAt(5, 0)", -1, x.vesselAt(5, 0));
        CHECK.same("vesselAt(10, 8)", 1, x.vesselAt(10, 8));
        CHECK.same("cranesAt(8)", 2, x.cranesAt(8));
        x.setQuay(10);
        CHECK.same("plan() on 10 berths", 9, x.plan());
        stays("10 berths", x, 0, 0, 0);
        stays("10 berths", x, 1, 9, 0);
        CHECK.same("vesselAt(0, 8)", 0, x.vesselAt(0, 8));
        CHECK.same("vesselAt(0, 9)", 1, x.vesselAt(0, 9));
    }

    private static void notEnoughCranes() {
        Stevedore x = new Stevedore();
        x.addVessel(0, 1, 1, 2);
        x.addVessel(0, 1, 1, 2);
        CHECK.same("plan(), 3 cranes for 2 and 2", 1, x.plan());
        CHECK.same("cranesAt(0)", 2, x.cranesAt(0));
        CHECK.same("cranesAt(1)", 2, x.cranesAt(1));
        CHECK.same("cranesAt(2)", 0, x.cranesAt(2));
        x.setCranes(4);
        CHECK.same("plan(), 4 cranes for 2 and 2", 0, x.plan());
        CHECK.same("cranesAt(0), each wants 2 for its one bay", 4, x.cranesAt(0));
    }

    /** The earliest START may be in the middle of others' stays, as one of them ends. */
    private static void starting() {
        Stevedore x = new Stevedore();
        x.setQuay(6);
        add(x, 0, 3, 9);
        add(x, 0, 1, 9);
        add(x, 3, 3, 1);
        CHECK.same("plan()", 2, x.plan());
        stays("three", x, 0, 0, 0);
        stays("three", x, 1, 0, 4);
        stays("three", x, 2, 5, 0);
        x.setQuay(7);
        CHECK.same("plan() on 7 berths", 0, x.plan());
        stays("7 berths", x, 2, 3, 4);
    }

    /** Cranes have to suffice for the whole stay, not only at its START. */
    private static void laterCranesCount() {
        Stevedore x = new Stevedore();
        x.setCranes(2);
        x.addVessel(2, 2, 9, 2);
        x.addVessel(0, 2, 1, 1);
        CHECK.same("handling(0)", 2, x.handling(0));
        CHECK.same("handling(1)", 3, x.handling(1));
        CHECK.same("plan()", 4, x.plan());
        stays("cranes later", x, 0, 2, 0);
        stays("cranes later", x, 1, 4, 0);
        CHECK.same("delayIf(1, 4)", 0, x.delayIf(1, 4));
        CHECK.same("delayIf(0, 3)", 0, x.delayIf(0, 3));
    }

    private static void placeIsTheSmallestThatFits() {
        Stevedore x = new Stevedore();
        x.setQuay(10);
        x.setCranes(6);
        add(x, 0, 2, 1);
        add(x, 0, 3, 1);
        add(x, 0, 4, 1);
        CHECK.same("plan() on 10 berths: vessel 1 waits for vessel 0 to go", 3, x.plan());
        order("10 berths", x, 2, 0, 1);
        stays("10 berths", x, 2, 0, 0);
        stays("10 berths", x, 0, 0, 5);
        stays("10 berths", x, 1, 3, 5);
        x.setQuay(11);
        CHECK.same("plan() on 11 berths: 2 + 1 + 3 + 1 + 4", 0, x.plan());
        stays("11 berths", x, 2, 0, 7);
        x.setQuay(13);
        CHECK.same("plan() on 13 berths", 0, x.plan());
        stays("13 berths", x, 0, 0, 0);
        stays("13 berths", x, 1, 0, 3);
        stays("13 berths", x, 2, 0, 7);
        x.addVessel(3, 2, 1, 1);
        CHECK.same("plan() with one that comes as vessel 0 has gone", 0, x.plan());
        stays("with one more", x, 3, 3, 0);
        x.addVessel(3, 1, 1, 1);
        CHECK.same("plan() with another one", 0, x.plan());
        stays("with another one", x, 3, 3, 0);
        stays("with another one", x, 4, 3, 12);
    }

    private static void rankDecides() {
        Stevedore x = new Stevedore();
        x.setCranes(1);
        add(x, 0, 2, 1);
        add(x, 0, 4, 5);
        CHECK.same("plan(): rank 1 waits 7, or rank 5 waits 3", 7, x.plan());
        order("rank", x, 1, 0);
        stays("rank", x, 0, 7, 0);
        stays("rank", x, 1, 0, 0);
        CHECK.same("delayByNumbers()", 15, x.delayByNumbers());
        order("rank, behind delayByNumbers()", x, 1, 0);
        stays("rank, behind delayByNumbers()", x, 0, 7, 0);
    }

    private static void latestEndDecides() {
        Stevedore x = new Stevedore();
        x.setCranes(1);
        add(x, 1, 2, 1);
        add(x, 0, 3, 1);
        // By 0, 1 vessel 1 waits from 0 to 4, and ends at 9; by 1, 0 vessel 0 waits from 1 to 5, and ends at 8.
        CHECK.same("plan()", 4, x.plan());
        CHECK.same("delayByNumbers()", 4, x.delayByNumbers());
        order("latest", x, 1, 0);
        stays("latest", x, 0, 5, 0);
        stays("latest", x, 1, 0, 0);
    }

    private static void smallerOrderDecides() {
        Stevedore x = new Stevedore();
        x.setCranes(1);
        add(x, 0, 2, 3);
        add(x, 0, 2, 3);
        add(x, 0, 2, 3);
        CHECK.same("plan() of three alike", 3 * 3 + 3 * 6, x.plan());
        order("three alike", x, 0, 1, 2);
        Stevedore free = new Stevedore();
        free.setCranes(6);
        free.setQuay(60);
        for (int v = 0; v < 6; v++) {
            add(free, 10 - v, 2, 1 + v);
        }
        CHECK.same("plan() of six that do not meet", 0, free.plan());
        order("six that do not meet", free, 0, 1, 2, 3, 4, 5);
        for (int v = 0; v < 6; v++) {
            stays("six that do not meet", free, v, 10 - v, 3 * (v % 3));
        }
    }

    private static void laterOneInOrderGoesAheadInTime() {
        Stevedore x = new Stevedore();
        x.setCranes(1);
        add(x, 10, 2, 9);
        add(x, 0, 3, 1);
        CHECK.same("plan()", 0, x.plan());
        order("gap ahead", x, 0, 1);
        stays("gap ahead", x, 1, 0, 0);
        x.setVessel(1, 5, 1);
        CHECK.same("plan(): from 5 up to 10 is just enough", 0, x.plan());
        stays("just enough", x, 1, 5, 0);
        x.setVessel(1, 6, 1);
        CHECK.same("plan(): from 6 up to 10 is not", 7, x.plan());
        stays("not enough", x, 1, 13, 0);
    }

    private static void cannotBePlanned() {
        Stevedore x = new Stevedore();
        x.setQuay(4);
        x.addVessel(0, 4, 1, 1);
        CHECK.same("plan(): 4 bays on 4 berths", 0, x.plan());
        x.addVessel(0, 5, 1, 1);
        CHECK.same("plan(): 5 bays on 4 berths", -1, x.plan());
        CHECK.holds("no plan", !x.isPlanned());
        CHECK.same("delayByNumbers()", -1, x.delayByNumbers());
        CHECK.same("delayIf(0, 3)", -1, x.delayIf(0, 3));
        CHECK.noState("startOf(0)", () -> x.startOf(0));
        CHECK.noState("giveSlots()", () -> x.giveSlots());
        x.setQuay(5);
        CHECK.same("plan() on 5 berths", 7, x.plan());
        x.setCranes(2);
        x.setVessel(0, 0, 3);
        CHECK.same("plan(): wants 3 of 2", -1, x.plan());
        x.setVessel(0, 0, 2);
        CHECK.same("plan(): wants 2 of 2", 3, x.plan());
        Stevedore one = new Stevedore();
        one.addVessel(0, 1, 1, 4);
        CHECK.same("plan(): wants 4 of 3 for its only bay", -1, one.plan());
        CHECK.same("ranges(0)", 1, one.ranges(0));
    }

    private static void whatIf() {
        Stevedore x = new Stevedore();
        x.setCranes(1);
        add(x, 0, 2, 1);
        add(x, 0, 4, 5);
        x.plan();
        x.giveSlots();
        long before = x.digest();
        CHECK.same("delayIf(0, 7)", 0, x.delayIf(0, 7));
        CHECK.same("delayIf(0, 5)", 2, x.delayIf(0, 5));
        CHECK.same("delayIf(1, 3)", 0, x.delayIf(1, 3));
        CHECK.same("delayIf(1, 2)", 5, x.delayIf(1, 2));
        CHECK.same("delayIf(1, 0)", 7, x.delayIf(1, 0));
        CHECK.same("delayIf(1, 400)", 0, x.delayIf(1, 400));
        CHECK.same("digest() behind them", before, x.digest());
        CHECK.same("plan() behind them", 7, x.plan());
        CHECK.noArgument("delayIf(1, 401)", () -> x.delayIf(1, 401));
        CHECK.noArgument("delayIf(1, -1)", () -> x.delayIf(1, -1));
        CHECK.noIndex("delayIf(2, -1)", () -> x.delayIf(2, -1));
        CHECK.noIndex("delayIf(-1, 0)", () -> x.delayIf(-1, 0));
    }

    private static void thingsThatAreNotThere() {
        Stevedore x = new Stevedore();
        add(x, 0, 1, 1);
        add(x, 0, 1, 1);
        x.setQuay(5);
        x.plan();
        int[] none = {-1, 2, 6, Integer.MIN_VALUE, Integer.MAX_VALUE};
        for (int v : none) {
            CHECK.noIndex("orderAt(" + v + ")", () -> x.orderAt(v));
            CHECK.noIndex("startOf(" + v + ")", () -> x.startOf(v));
            CHECK.noIndex("placeOf(" + v + ")", () -> x.placeOf(v));
        }
        int[] noBerth = {-1, 5, 20, Integer.MIN_VALUE, Integer.MAX_VALUE};
        for (int b : noBerth) {
            CHECK.noIndex("vesselAt(" + b + ", 0)", () -> x.vesselAt(b, 0));
        }
        CHECK.same("vesselAt(4, 0)", -1, x.vesselAt(4, 0));
        CHECK.same("vesselAt(2, 0)", 1, x.vesselAt(2, 0));
    }

    private static void meanOfWaits() {
        Stevedore x = new Stevedore();
        x.setCranes(1);
        add(x, 0, 2, 9);
        add(x, 0, 1, 8);
        add(x, 1, 1, 1);
        CHECK.same("plan()", 0 + 9 + 0 + 3, x.plan());
        // Vessel 1 first (0 to 1), then vessel 0 (1 to 4), then vessel 2 from 4 on: they wait 0, 1 and 3.
        CHECK.same("meanWait()", 4.0 / 3.0, x.meanWait());
        x.addVessel(100, 1, 1, 1);
        CHECK.same("meanWait() without a plan", 0.0, x.meanWait());
        x.plan();
        CHECK.same("meanWait() of four", 1.0, x.meanWait());
    }
}
