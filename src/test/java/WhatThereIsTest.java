/** Promises 1 to 12: a new object, and what there is. */
public final class WhatThereIsTest {
    private static final Check CHECK = new Check("WhatThereIsTest");

    public static void main(String[] args) {
        newObject();
        quay();
        cranes();
        addedVessels();
        setVessels();
        addedContainers();
        wishes();
        rooms();
        stacks();
        nothingChangedByWrongCalls();
        CHECK.end();
    }

    private static void newObject() {
        Stevedore x = new Stevedore();
        CHECK.same("new: vessels()", 0, x.vessels());
        CHECK.same("new: containers()", 0, x.containers());
        CHECK.same("new: stacks()", 0, x.stacks());
        CHECK.same("new: events()", 0, x.events());
        CHECK.same("new: reshuffles()", 0, x.reshuffles());
        CHECK.same("new: blocking()", 0, x.blocking());
        CHECK.same("new: tidy(3)", 0, x.tidy(3));
        CHECK.holds("new: no plan", !x.isPlanned());
        CHECK.same("new: meanWait()", 0.0, x.meanWait());
        CHECK.same("new: digest()", 1596391921176664L, x.digest());
        CHECK.same("new: another one's digest()", x.digest(), new Stevedore().digest());
    }

    private static void quay() {
        Stevedore x = new Stevedore();
        CHECK.same("setQuay(4), first", 20, x.setQuay(4));
        CHECK.same("setQuay(60)", 4, x.setQuay(60));
        int[] wrong = {3, 61, 0, -1, Integer.MIN_VALUE, Integer.MAX_VALUE};
        for (int berths : wrong) {
            CHECK.noArgument("setQuay(" + berths + ")", () -> x.setQuay(berths));
        }
        CHECK.same("setQuay(20)", 60, x.setQuay(20));
    }

    private static void cranes() {
        Stevedore x = new Stevedore();
        CHECK.same("setCranes(1), first", 3, x.setCranes(1));
        CHECK.same("setCranes(6)", 1, x.setCranes(6));
        int[] wrong = {0, 7, -1, Integer.MIN_VALUE, Integer.MAX_VALUE};
        for (int cranes : wrong) {
            CHECK.noArgument("setCranes(" + cranes + ")", () -> x.setCranes(cranes));
        }
        CHECK.same("setCranes(3)", 6, x.setCranes(3));
    }

    private static void addedVessels() {
        Stevedore x = new Stevedore();
        int[][] wrong = {
            {-1, 1, 1, 1}, {401, 1, 1, 1}, {0, 0, 1, 1}, {0, 11, 1, 1}, {0, 1, 0, 1}, {0, 1, 10, 1}, {0, 1, 1, 0},
            {0, 1, 1, 5}, {Integer.MIN_VALUE, 1, 1, 1}, {0, Integer.MAX_VALUE, 1, 1}, {0, 1, Integer.MAX_VALUE, 1},
            {0, 1, 1, Integer.MIN_VALUE},
        };
        for (int v = 0; v < 6; v++) {
            for (int[] w : wrong) {
                CHECK.noArgument("addVessel, wrong", () -> x.addVessel(w[0], w[1], w[2], w[3]));
            }
            CHECK.same("vessels()", v, x.vessels());
            boolean isLeast = v % 2 == 0;
            int number = isLeast ? x.addVessel(0, 1, 1, 1) : x.addVessel(400, 10, 9, 4);
            CHECK.same("addVessel", v, number);
        }
        CHECK.noState("a seventh vessel", () -> x.addVessel(0, 1, 1, 1));
        for (int[] w : wrong) {
            CHECK.noArgument("a seventh vessel, wrong", () -> x.addVessel(w[0], w[1], w[2], w[3]));
        }
        CHECK.same("vessels()", 6, x.vessels());
    }

    private static void setVessels() {
        Stevedore x = new Stevedore();
        CHECK.noIndex("setVessel without vessels", () -> x.setVessel(0, 0, 1));
        x.addVessel(7, 3, 1, 1);
        x.addVessel(8, 3, 1, 1);
        CHECK.same("setVessel(0, 400, 3)", 7, x.setVessel(0, 400, 3));
        CHECK.same("ranges(0), set", 3, x.ranges(0));
        CHECK.same("ranges(1), not set", 1, x.ranges(1));
        CHECK.same("setVessel(0, 0, 1)", 400, x.setVessel(0, 0, 1));
        CHECK.same("ranges(0), set back", 1, x.ranges(0));
        CHECK.same("setVessel(1, 9, 4)", 8, x.setVessel(1, 9, 4));
        CHECK.same("setVessel(1, 9, 4) again", 9, x.setVessel(1, 9, 4));
        int[] none = {-1, 2, Integer.MIN_VALUE, Integer.MAX_VALUE};
        for (int vessel : none) {
            CHECK.noIndex("setVessel(" + vessel + ")", () -> x.setVessel(vessel, 0, 1));
            CHECK.noIndex("setVessel(" + vessel + "), all wrong", () -> x.setVessel(vessel, -1, 0));
        }
        int[][] wrong = {{-1, 1}, {401, 1}, {0, 0}, {0, 5}, {Integer.MAX_VALUE, 1}, {0, Integer.MIN_VALUE}};
        for (int[] w : wrong) {
            CHECK.noArgument("setVessel(0, " + w[0] + ", " + w[1] + ")", () -> x.setVessel(0, w[0], w[1]));
        }
        CHECK.same("setVessel(0, 1, 1), nothing changed by wrong ones", 0, x.setVessel(0, 1, 1));
    }

    private static void addedContainers() {
        Stevedore x = new Stevedore();
        CHECK.noIndex("addContainer without vessels", () -> x.addContainer(0, 0, false, 1, 0));
        x.addVessel(0, 2, 1, 1);
        x.addVessel(0, 10, 1, 1);
        int[][] none = {{-1, 0}, {2, 0}, {0, -1}, {0, 2}, {1, 10}, {Integer.MAX_VALUE, 0}, {0, Integer.MIN_VALUE}};
        int[][] wrong = {{0, 0}, {41, 0}, {1, -1}, {1, 16}, {Integer.MIN_VALUE, 0}, {1, Integer.MAX_VALUE}};
        for (int c = 0; c <= 24; c++) {
            for (int[] n : none) {
                CHECK.noIndex("addContainer, no bay", () -> x.addContainer(n[0], n[1], false, 1, 0));
                CHECK.noIndex("addContainer, all wrong", () -> x.addContainer(n[0], n[1], true, 41, 16));
            }
            for (int[] w : wrong) {
                CHECK.noArgument("addContainer, wrong", () -> x.addContainer(1, 9, true, w[0], w[1]));
            }
            CHECK.same("containers()", c, x.containers());
            if (c < 24) {
                boolean isLeast = c % 2 == 0;
                int number = isLeast ? x.addContainer(0, 0, false, 1, 0) : x.addContainer(1, 9, true, 40, 15);
                CHECK.same("addContainer", c, number);
            }
        }
        CHECK.noState("a 25th container", () -> x.addContainer(0, 0, false, 1, 0));
        CHECK.same("containers()", 24, x.containers());
        CHECK.same("work(0, 0)", 24, x.work(0, 0));
        CHECK.same("work(1, 9)", 24, x.work(1, 9));
    }

    private static void wishes() {
        Stevedore x = new Stevedore();
        CHECK.noIndex("setWish without containers", () -> x.setWish(0, 0));
        x.addVessel(0, 1, 1, 1);
        x.addContainer(0, 0, false, 1, 3);
        x.addContainer(0, 0, false, 1, 4);
        CHECK.same("setWish(0, 15)", 3, x.setWish(0, 15));
        CHECK.same("setWish(0, 0)", 15, x.setWish(0, 0));
        CHECK.same("setWish(1, 9)", 4, x.setWish(1, 9));
        int[] none = {-1, 2, Integer.MIN_VALUE, Integer.MAX_VALUE};
        for (int container : none) {
            CHECK.noIndex("setWish(" + container + ", 0)", () -> x.setWish(container, 0));
            CHECK.noIndex("setWish(" + container + ", 16)", () -> x.setWish(container, 16));
        }
        int[] wrong = {-1, 16, Integer.MIN_VALUE, Integer.MAX_VALUE};
        for (int wish : wrong) {
            CHECK.noArgument("setWish(0, " + wish + ")", () -> x.setWish(0, wish));
        }
        CHECK.same("setWish(0, 1), nothing changed by wrong ones", 0, x.setWish(0, 1));
    }

    private static void rooms() {
        Stevedore x = new Stevedore();
        for (int slot = 0; slot < 16; slot++) {
            CHECK.same("setRoom(" + slot + ", 6), first", 2, x.setRoom(slot, 6));
            CHECK.same("setRoom(" + slot + ", 0)", 6, x.setRoom(slot, 0));
        }
        int[] none = {-1, 16, Integer.MIN_VALUE, Integer.MAX_VALUE};
        for (int slot : none) {
            CHECK.noIndex("setRoom(" + slot + ", 0)", () -> x.setRoom(slot, 0));
            CHECK.noIndex("setRoom(" + slot + ", 7)", () -> x.setRoom(slot, 7));
        }
        int[] wrong = {-1, 7, Integer.MIN_VALUE, Integer.MAX_VALUE};
        for (int room : wrong) {
            CHECK.noArgument("setRoom(5, " + room + ")", () -> x.setRoom(5, room));
        }
        CHECK.same("setRoom(5, 1), nothing changed by wrong ones", 0, x.setRoom(5, 1));
    }

    private static void stacks() {
        Stevedore x = new Stevedore();
        int[] wrong = {0, 6, -1, Integer.MIN_VALUE, Integer.MAX_VALUE};
        for (int s = 0; s <= 12; s++) {
            for (int height : wrong) {
                CHECK.noArgument("addStack(" + height + ")", () -> x.addStack(height));
            }
            CHECK.same("stacks()", s, x.stacks());
            if (s < 12) {
                CHECK.same("addStack", s, x.addStack(s % 2 == 0 ? 1 : 5));
            }
        }
        CHECK.noState("a 13th stack", () -> x.addStack(1));
        CHECK.same("stacks()", 12, x.stacks());
    }

    private static void nothingChangedByWrongCalls() {
        Stevedore x = new Stevedore();
        x.addVessel(0, 1, 1, 1);
        x.addContainer(0, 0, false, 1, 1);
        x.addStack(1);
        x.plan();
        x.giveSlots();
        x.work(1);
        long before = x.digest();
        CHECK.noArgument("setQuay(3)", () -> x.setQuay(3));
        CHECK.noArgument("setCranes(0)", () -> x.setCranes(0));
        CHECK.noArgument("addVessel", () -> x.addVessel(0, 1, 1, 0));
        CHECK.noIndex("setVessel(1, 0, 1)", () -> x.setVessel(1, 0, 1));
        CHECK.noArgument("setVessel(0, 0, 0)", () -> x.setVessel(0, 0, 0));
        CHECK.noIndex("addContainer", () -> x.addContainer(0, 1, false, 1, 0));
        CHECK.noArgument("addContainer", () -> x.addContainer(0, 0, false, 1, 16));
        CHECK.noIndex("setWish(1, 0)", () -> x.setWish(1, 0));
        CHECK.noArgument("setWish(0, 16)", () -> x.setWish(0, 16));
        CHECK.noIndex("setRoom(16, 0)", () -> x.setRoom(16, 0));
        CHECK.noArgument("setRoom(0, 7)", () -> x.setRoom(0, 7));
        CHECK.noArgument("addStack(0)", () -> x.addStack(0));
        CHECK.noArgument("work(-1)", () -> x.work(-1));
        CHECK.noArgument("tidy(-1)", () -> x.tidy(-1));
        CHECK.noArgument("inTheEnd(4)", () -> x.inTheEnd(4));
        CHECK.same("digest() behind wrong calls", before, x.digest());
        CHECK.same("stateOf(0)", 1, x.stateOf(0));
    }
}
