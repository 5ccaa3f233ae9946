/** Promises 30 to 34: when containers are moved, and which slots their trucks get. */
public final class SlotsTest {
    private static final Check CHECK = new Check("SlotsTest");

    public static void main(String[] args) {
        movedInTurn();
        slotsOfImports();
        slotsOfExports();
        noneIsLaterThanAll();
        roomIsKept();
        container0First();
        pushedOnFromSlotToSlot();
        costIsWorthIt();
        whatIf();
        needsPlanAndSlots();
        thingsThatAreNotThere();
        CHECK.end();
    }

    /** A terminal with one vessel of one bay and one crane, which begins as the vessel arrives. */
    private static Stevedore vessel(int arrival) {
        Stevedore x = new Stevedore();
        x.addVessel(arrival, 1, 1, 1);
        return x;
    }

    /** Imports, all moved ahead of slot 1, with these wishes; then a plan. */
    private static Stevedore imports(int... wishes) {
        Stevedore x = vessel(0);
        for (int wish : wishes) {
            x.addContainer(0, 0, false, 1, wish);
        }
        x.plan();
        return x;
    }

    private static void slots(String what, Stevedore x, int... due) {
        for (int c = 0; c < due.length; c++) {
            CHECK.same(what + ": slotOf(" + c + ")", due[c], x.slotOf(c));
        }
    }

    private static void movedInTurn() {
        Stevedore x = new Stevedore();
        x.addVessel(7, 2, 1, 1);
        x.addContainer(0, 0, true, 1, 0);
        x.addContainer(0, 0, false, 1, 0);
        x.addContainer(0, 1, true, 1, 0);
        x.addContainer(0, 0, true, 1, 0);
        x.addContainer(0, 0, false, 1, 0);
        x.plan();
        CHECK.same("beginOf(0, 1)", 9, x.beginOf(0, 1));
        // Imports 1 and 4 first, then exports 0 and 3; container 2 is the only one of its bay.
        int[] due = {7 + 6, 7 + 2, 7 + 9 + 2, 7 + 8, 7 + 4};
        for (int c = 0; c < due.length; c++) {
            CHECK.same("movedAt(" + c + ")", due[c], x.movedAt(c));
        }
        x.addVessel(7, 2, 9, 3);
        x.plan();
        CHECK.same("startOf(0)", 9, x.startOf(0));
        CHECK.same("movedAt(1), a vessel that waits", 11, x.movedAt(1));
    }

    private static void slotsOfImports() {
        int[] arrivals = {0, 17, 18, 19, 298, 299};
        int[] earliest = {1, 1, 1, 2, 15, -1};
        for (int i = 0; i < arrivals.length; i++) {
            Stevedore x = vessel(arrivals[i]);
            x.addContainer(0, 0, false, 1, 0);
            x.plan();
            int cost = earliest[i] < 0 ? 40 : earliest[i];
            CHECK.same("import, arrival " + arrivals[i] + ": giveSlots()", cost, x.giveSlots());
            slots("import, arrival " + arrivals[i], x, earliest[i]);
        }
        Stevedore x = imports(15);
        CHECK.same("import that wishes 15: giveSlots()", 0, x.giveSlots());
        slots("import that wishes 15", x, 15);
    }

    private static void slotsOfExports() {
        int[] arrivals = {0, 19, 20, 39, 40, 320, 400};
        int[] latest = {-1, -1, 0, 0, 1, 15, 15};
        for (int i = 0; i < arrivals.length; i++) {
            Stevedore x = vessel(arrivals[i]);
            x.addContainer(0, 0, true, 1, 15);
            x.plan();
            int cost = latest[i] < 0 ? 40 : 15 - latest[i];
            CHECK.same("export, arrival " + arrivals[i] + ": giveSlots()", cost, x.giveSlots());
            slots("export, arrival " + arrivals[i], x, latest[i]);
        }
        Stevedore x = vessel(400);
        x.addContainer(0, 0, true, 1, 0);
        x.plan();
        CHECK.same("export that wishes 0: giveSlots()", 0, x.giveSlots());
        slots("export that wishes 0", x, 0);
    }

    private static void noneIsLaterThanAll() {
        Stevedore x = imports(3, 3, 3);
        for (int s = 0; s < 16; s++) {
            x.setRoom(s, s == 3 ? 1 : 0);
        }
        CHECK.same("one place for three: giveSlots()", 80, x.giveSlots());
        slots("one place for three", x, 3, -1, -1);
        CHECK.same("inSlot(3)", 1, x.inSlot(3));
        x.setRoom(3, 0);
        CHECK.same("no place at all: giveSlots()", 120, x.giveSlots());
        slots("no place at all", x, -1, -1, -1);
        CHECK.same("inSlot(3)", 0, x.inSlot(3));
    }

    private static void roomIsKept() {
        Stevedore x = imports(5, 5, 5, 5, 5, 5, 5);
        CHECK.same("2 a slot: giveSlots()", 0 + 0 + 1 + 1 + 1 + 1 + 2, x.giveSlots());
        slots("2 a slot", x, 3, 4, 4, 5, 5, 6, 6);
        for (int s = 0; s < 16; s++) {
            CHECK.same("inSlot(" + s + ")", s == 3 ? 1 : s >= 4 && s <= 6 ? 2 : 0, x.inSlot(s));
        }
        x.setRoom(5, 6);
        CHECK.same("6 in slot 5: giveSlots()", 1, x.giveSlots());
        slots("6 in slot 5", x, 4, 5, 5, 5, 5, 5, 5);
        CHECK.same("inSlot(5)", 6, x.inSlot(5));
    }

    private static void container0First() {
        Stevedore x = imports(3, 3, 3);
        x.setRoom(3, 1);
        x.setRoom(2, 1);
        CHECK.same("giveSlots()", 2, x.giveSlots());
        slots("one of them earlier, one later", x, 2, 3, 4);
        Stevedore y = imports(4, 3);
        y.setRoom(4, 0);
        CHECK.same("giveSlots()", 1, y.giveSlots());
        slots("3 has room for both", y, 3, 3);
        y.setRoom(3, 1);
        CHECK.same("giveSlots()", 2 - 1, y.giveSlots());
        slots("3 or 5 for container 0", y, 5, 3);
        y.setRoom(5, 0);
        CHECK.same("giveSlots()", 2, y.giveSlots());
        slots("container 0 takes 2 or 3", y, 2, 3);
    }

    /** Alike in cost: container 0 may have an earlier slot only if several others move on. */
    private static void pushedOnFromSlotToSlot() {
        Stevedore x = imports(6, 5, 4, 3);
        for (int s = 0; s < 16; s++) {
            x.setRoom(s, s >= 2 && s <= 5 ? 1 : 0);
        }
        CHECK.same("giveSlots()", 4, x.giveSlots());
        slots("four that all wish one slot later", x, 2, 5, 4, 3);
        x.setRoom(6, 1);
        CHECK.same("giveSlots(), each its wish", 0, x.giveSlots());
        slots("each its wish", x, 6, 5, 4, 3);
        x.setRoom(4, 0);
        CHECK.same("giveSlots() without slot 4", 2, x.giveSlots());
        slots("without slot 4", x, 6, 5, 2, 3);
    }

    /** Fifteen slots off costs less than none; more cannot be. */
    private static void costIsWorthIt() {
        Stevedore x = imports(0);
        for (int s = 0; s < 15; s++) {
            x.setRoom(s, 0);
        }
        CHECK.same("giveSlots(), the last slot only", 15, x.giveSlots());
        slots("the last slot only", x, 15);
        Stevedore none = vessel(0);
        none.plan();
        CHECK.same("giveSlots() without containers", 0, none.giveSlots());
        CHECK.same("inSlot(0) without containers", 0, none.inSlot(0));
    }

    private static void whatIf() {
        Stevedore x = imports(3, 3, 3);
        CHECK.same("costIf(3, 0) without slots", 3, x.costIf(3, 0));
        CHECK.noState("slotOf(0) behind costIf", () -> x.slotOf(0));
        CHECK.same("giveSlots()", 1, x.giveSlots());
        x.work(2);
        long before = x.digest();
        CHECK.same("costIf(3, 3)", 0, x.costIf(3, 3));
        CHECK.same("costIf(3, 6)", 0, x.costIf(3, 6));
        CHECK.same("costIf(3, 2)", 1, x.costIf(3, 2));
        CHECK.same("costIf(3, 1)", 2, x.costIf(3, 1));
        CHECK.same("costIf(9, 0)", 1, x.costIf(9, 0));
        CHECK.same("digest() behind them", before, x.digest());
        slots("behind them", x, 2, 3, 3);
        CHECK.same("setRoom(3, 2)", 2, x.setRoom(3, 2));
    }

    private static void needsPlanAndSlots() {
        Stevedore x = vessel(0);
        x.addContainer(0, 0, false, 1, 0);
        int[] all = {0, -1, 16, Integer.MAX_VALUE};
        for (int i : all) {
            CHECK.noState("movedAt(" + i + ") without a plan", () -> x.movedAt(i));
            CHECK.noState("slotOf(" + i + ") without a plan", () -> x.slotOf(i));
            CHECK.noState("inSlot(" + i + ") without a plan", () -> x.inSlot(i));
            CHECK.noState("costIf(" + i + ", -1) without a plan", () -> x.costIf(i, -1));
        }
        CHECK.noState("costIf(0, 0) without a plan", () -> x.costIf(0, 0));
        CHECK.noState("giveSlots() without a plan", () -> x.giveSlots());
        x.plan();
        for (int i : all) {
            CHECK.noState("slotOf(" + i + ") without slots", () -> x.slotOf(i));
            CHECK.noState("inSlot(" + i + ") without slots", () -> x.inSlot(i));
        }
        CHECK.same("movedAt(0)", 2, x.movedAt(0));
        CHECK.same("costIf(0, 0)", 1, x.costIf(0, 0));
    }

    private static void thingsThatAreNotThere() {
        Stevedore x = imports(1, 1);
        x.giveSlots();
        int[] noContainer = {-1, 2, 24, Integer.MIN_VALUE, Integer.MAX_VALUE};
        for (int c : noContainer) {
            CHECK.noIndex("movedAt(" + c + ")", () -> x.movedAt(c));
            CHECK.noIndex("slotOf(" + c + ")", () -> x.slotOf(c));
        }
        int[] noSlot = {-1, 16, Integer.MIN_VALUE, Integer.MAX_VALUE};
        for (int s : noSlot) {
            CHECK.noIndex("inSlot(" + s + ")", () -> x.inSlot(s));
            CHECK.noIndex("costIf(" + s + ", 0)", () -> x.costIf(s, 0));
            CHECK.noIndex("costIf(" + s + ", 7)", () -> x.costIf(s, 7));
        }
        int[] wrong = {-1, 7, Integer.MIN_VALUE, Integer.MAX_VALUE};
        for (int room : wrong) {
            CHECK.noArgument("costIf(0, " + room + ")", () -> x.costIf(0, room));
        }
    }
}
