import java.util.function.Consumer;

/** What is gone when something is set or added: the plan, the slots, the yard, or nothing. */
public final class ForgettingTest {
    private static final Check CHECK = new Check("ForgettingTest");
    private static final int EVENTS = 8;

    public static void main(String[] args) {
        forgetsPlan("setQuay", x -> x.setQuay(20));
        forgetsPlan("setCranes", x -> x.setCranes(3));
        forgetsPlan("addVessel", x -> x.addVessel(0, 1, 1, 1));
        forgetsPlan("setVessel", x -> x.setVessel(0, 0, 1));
        forgetsPlan("addContainer", x -> x.addContainer(0, 0, false, 1, 1));
        forgetsSlots("setWish", x -> x.setWish(0, 4));
        forgetsSlots("setRoom", x -> x.setRoom(7, 2));
        forgetsSlots("plan", x -> x.plan());
        forgetsYard("giveSlots", x -> x.giveSlots());
        forgetsYard("addStack", x -> x.addStack(3));
        keepsAll("delayByNumbers", x -> x.delayByNumbers());
        keepsAll("delayIf", x -> x.delayIf(0, 7));
        keepsAll("costIf", x -> x.costIf(3, 0));
        keepsAll("inTheEnd", x -> x.inTheEnd(0));
        keepsAll("wouldTake", x -> x.wouldTake(0));
        keepsAll("work(0)", x -> x.work(0));
        keepsAll("tidy(0)", x -> x.tidy(0));
        keepsAll("digest", x -> x.digest());
        CHECK.end();
    }

    /** A terminal in the midst of its work: one is gone by a reshuffle, one still stands, one was turned away. */
    private static Stevedore busy() {
        Stevedore x = new Stevedore();
        x.addVessel(0, 1, 1, 1);
        x.addStack(2);
        x.addStack(1);
        x.addContainer(0, 0, false, 10, 4);
        x.addContainer(0, 0, false, 40, 3);
        x.addContainer(0, 0, false, 18, 9);
        x.addContainer(0, 0, false, 40, 9);
        x.plan();
        CHECK.same("giveSlots()", 0, x.giveSlots());
        CHECK.same("events()", EVENTS, x.events());
        x.work(6);
        CHECK.same("reshuffles()", 1, x.reshuffles());
        CHECK.same("stateOf(0)", 2, x.stateOf(0));
        CHECK.same("stateOf(2)", 1, x.stateOf(2));
        CHECK.same("stateOf(3)", 3, x.stateOf(3));
        return x;
    }

    private static void yardIsEmpty(String call, Stevedore x) {
        CHECK.same(call + ": reshuffles()", 0, x.reshuffles());
        CHECK.same(call + ": blocking()", 0, x.blocking());
        for (int c = 0; c < x.containers(); c++) {
            CHECK.same(call + ": stateOf(" + c + ")", 0, x.stateOf(c));
            CHECK.same(call + ": stackOf(" + c + ")", -1, x.stackOf(c));
            CHECK.same(call + ": wouldTake(" + c + ")", -2, x.wouldTake(c));
        }
        for (int s = 0; s < x.stacks(); s++) {
            CHECK.same(call + ": heightOf(" + s + ")", 0, x.heightOf(s));
        }
    }

    private static void slotsAreGone(String call, Stevedore x) {
        CHECK.same(call + ": events()", 0, x.events());
        CHECK.noState(call + ": slotOf(0)", () -> x.slotOf(0));
        CHECK.noState(call + ": inSlot(0)", () -> x.inSlot(0));
        CHECK.noState(call + ": work(1)", () -> x.work(1));
        CHECK.noState(call + ": inTheEnd(0)", () -> x.inTheEnd(0));
        CHECK.noIndex(call + ": timeOf(0)", () -> x.timeOf(0));
        yardIsEmpty(call, x);
    }

    private static void forgetsPlan(String call, Consumer<Stevedore> body) {
        Stevedore x = busy();
        body.accept(x);
        CHECK.holds(call + ": no plan", !x.isPlanned());
        CHECK.noState(call + ": startOf(0)", () -> x.startOf(0));
        CHECK.noState(call + ": movedAt(0)", () -> x.movedAt(0));
        CHECK.noState(call + ": giveSlots()", () -> x.giveSlots());
        slotsAreGone(call, x);
        CHECK.same(call + ": plan() anew", 0, x.plan());
        slotsAreGone(call + ", planned anew", x);
    }

    private static void forgetsSlots(String call, Consumer<Stevedore> body) {
        Stevedore x = busy();
        body.accept(x);
        CHECK.holds(call + ": still a plan", x.isPlanned());
        CHECK.same(call + ": startOf(0)", 0, x.startOf(0));
        slotsAreGone(call, x);
        CHECK.same(call + ": giveSlots() anew", 0, x.giveSlots());
        CHECK.same(call + ": work(0) anew", 0, x.work(0));
        yardIsEmpty(call + ", slots given anew", x);
    }

    private static void forgetsYard(String call, Consumer<Stevedore> body) {
        Stevedore x = busy();
        body.accept(x);
        CHECK.holds(call + ": still a plan", x.isPlanned());
        CHECK.same(call + ": slotOf(0)", 4, x.slotOf(0));
        CHECK.same(call + ": events()", EVENTS, x.events());
        yardIsEmpty(call, x);
        CHECK.same(call + ": work(1)", 1, x.work(1));
        CHECK.same(call + ": stateOf(0)", 1, x.stateOf(0));
    }

    private static void keepsAll(String call, Consumer<Stevedore> body) {
        Stevedore x = busy();
        long before = x.digest();
        body.accept(x);
        CHECK.same(call + ": digest()", before, x.digest());
        CHECK.same(call + ": work(1)", 7, x.work(1));
        CHECK.same(call + ": stateOf(2)", 2, x.stateOf(2));
    }
}
