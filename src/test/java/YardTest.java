/** Promises 35 to 48: events, and what they do in the yard. */
public final class YardTest {
    private static final Check CHECK = new Check("YardTest");

    public static void main(String[] args) {
        withoutSlots();
        eventsInOrder();
        eventsAtOneTime();
        workedOff();
        smallestFirstThatIsNotLess();
        greatestFirstElse();
        smallestNumberElse();
        notLighterByMoreThanEight();
        turnedAway();
        reshuffled();
        reshuffledOnTwoStacks();
        missed();
        missedWithNothingMoved();
        exportsGoThroughTheYard();
        importsWithoutSlotStay();
        blocks();
        tidied();
        tidiedInOrder();
        inTheEnd();
        thingsThatAreNotThere();
        CHECK.end();
    }

    /** A terminal with stacks of these heights and one vessel of one bay, whose containers are moved from 2 on. */
    private static Stevedore yard(int... heights) {
        Stevedore x = new Stevedore();
        x.addVessel(0, 1, 1, 1);
        for (int height : heights) {
            x.addStack(height);
        }
        for (int s = 0; s < 16; s++) {
            x.setRoom(s, 6);
        }
        return x;
    }

    /** Imports of these weights and slots, as pairs; they come in this order, and leave as their slots begin. */
    private static Stevedore imports(Stevedore x, int... weightsAndSlots) {
        for (int i = 0; i < weightsAndSlots.length; i += 2) {
            x.addContainer(0, 0, false, weightsAndSlots[i], weightsAndSlots[i + 1]);
        }
        x.plan();
        CHECK.same("giveSlots()", 0, x.giveSlots());
        return x;
    }

    private static void stack(String what, Stevedore x, int stack, int... due) {
        CHECK.same(what + ": heightOf(" + stack + ")", due.length, x.heightOf(stack));
        for (int i = 0; i < Math.min(due.length, x.heightOf(stack)); i++) {
            CHECK.same(what + ": containerAt(" + stack + ", " + i + ")", due[i], x.containerAt(stack, i));
            CHECK.same(what + ": stackOf(" + due[i] + ")", stack, x.stackOf(due[i]));
        }
        CHECK.noIndex(what + ": above stack " + stack, () -> x.containerAt(stack, due.length));
    }

    private static void states(String what, Stevedore x, int... due) {
        for (int c = 0; c < due.length; c++) {
            CHECK.same(what + ": stateOf(" + c + ")", due[c], x.stateOf(c));
            boolean isThere = due[c] == 1 || due[c] == 4;
            CHECK.holds(what + ": stackOf(" + c + ") goes with its state", isThere == (x.stackOf(c) >= 0));
        }
    }

    private static void event(Stevedore x, int event, int time, int kind, int container) {
        CHECK.same("timeOf(" + event + ")", time, x.timeOf(event));
        CHECK.same("kindOf(" + event + ")", kind, x.kindOf(event));
        CHECK.same("containerOf(" + event + ")", container, x.containerOf(event));
    }

    private static void withoutSlots() {
        Stevedore x = yard(2);
        x.addContainer(0, 0, false, 1, 5);
        x.plan();
        CHECK.same("events() without slots", 0, x.events());
        CHECK.noState("work(0) without slots", () -> x.work(0));
        CHECK.noState("work(5) without slots", () -> x.work(5));
        CHECK.noArgument("work(-1) without slots", () -> x.work(-1));
        CHECK.noState("inTheEnd(0) without slots", () -> x.inTheEnd(0));
        CHECK.noArgument("inTheEnd(-1) without slots", () -> x.inTheEnd(-1));
        CHECK.noArgument("inTheEnd(4) without slots", () -> x.inTheEnd(4));
        CHECK.same("tidy(5) without slots", 0, x.tidy(5));
        CHECK.same("stateOf(0) without slots", 0, x.stateOf(0));
        CHECK.same("stackOf(0) without slots", -1, x.stackOf(0));
        CHECK.same("heightOf(0) without slots", 0, x.heightOf(0));
        CHECK.same("wouldTake(0) without slots", -2, x.wouldTake(0));
        CHECK.same("reshuffles() without slots", 0, x.reshuffles());
        CHECK.same("blocking() without slots", 0, x.blocking());
        CHECK.noIndex("timeOf(0) without slots", () -> x.timeOf(0));
        CHECK.noIndex("kindOf(0) without slots", () -> x.kindOf(0));
        CHECK.noIndex("containerOf(0) without slots", () -> x.containerOf(0));
        CHECK.noIndex("containerAt(0, 0) without slots", () -> x.containerAt(0, 0));
    }

    private static void eventsInOrder() {
        Stevedore x = yard(5);
        x.addVessel(100, 1, 1, 1);
        x.addContainer(0, 0, false, 1, 7);
        x.addContainer(0, 0, true, 1, 0);
        x.addContainer(1, 0, true, 1, 2);
        x.addContainer(1, 0, false, 1, 6);
        x.plan();
        x.giveSlots();
        // Container 1 is moved at 4, ahead of which no slot is over: it gets none, and has no event.
        CHECK.same("slotOf(1)", -1, x.slotOf(1));
        CHECK.same("events()", 6, x.events());
        event(x, 0, 2, 0, 0);
        event(x, 1, 40, 1, 2);
        event(x, 2, 102, 0, 3);
        event(x, 3, 102, 2, 2);
        event(x, 4, 120, 3, 3);
        event(x, 5, 140, 3, 0);
        CHECK.noIndex("timeOf(6)", () -> x.timeOf(6));
    }

    private static void eventsAtOneTime() {
        Stevedore x = new Stevedore();
        x.setCranes(6);
        x.addVessel(58, 1, 1, 1);
        x.addVessel(60, 1, 1, 1);
        x.addVessel(100, 1, 1, 1);
        x.addContainer(0, 0, false, 1, 3);
        x.addContainer(2, 0, true, 1, 3);
        x.addContainer(2, 0, true, 1, 3);
        x.addContainer(1, 0, true, 1, 0);
        x.addVessel(0, 1, 1, 1);
        x.addContainer(3, 0, false, 1, 3);
        x.addContainer(3, 0, false, 1, 3);
        x.setRoom(3, 6);
        x.plan();
        CHECK.same("giveSlots()", 0, x.giveSlots());
        // At 60: 0 is moved, the trucks of 1 and 2 come, 3 is taken out, and the trucks of 0, 4 and 5 come.
        CHECK.same("movedAt(0)", 60, x.movedAt(0));
        CHECK.same("movedAt(3)", 62, x.movedAt(3));
        CHECK.same("events()", 12, x.events());
        int[][] due = {
            {0, 1, 3}, {2, 0, 4}, {4, 0, 5}, {60, 0, 0}, {60, 1, 1}, {60, 1, 2}, {60, 2, 3}, {60, 3, 0}, {60, 3, 4},
            {60, 3, 5}, {100, 2, 1}, {102, 2, 2},
        };
        for (int e = 0; e < due.length; e++) {
            event(x, e, due[e][0], due[e][1], due[e][2]);
        }
        int[] none = {-1, 12, 48, Integer.MIN_VALUE, Integer.MAX_VALUE};
        for (int e : none) {
            CHECK.noIndex("timeOf(" + e + ")", () -> x.timeOf(e));
            CHECK.noIndex("kindOf(" + e + ")", () -> x.kindOf(e));
            CHECK.noIndex("containerOf(" + e + ")", () -> x.containerOf(e));
        }
    }

    private static void workedOff() {
        Stevedore x = imports(yard(5), 10, 9, 10, 8);
        CHECK.same("events()", 4, x.events());
        CHECK.same("work(0)", 0, x.work(0));
        states("none worked off", x, 0, 0);
        CHECK.same("work(1)", 1, x.work(1));
        states("one worked off", x, 1, 0);
        CHECK.same("work(2)", 3, x.work(2));
        states("three worked off", x, 1, 2);
        CHECK.noArgument("work(-1)", () -> x.work(-1));
        CHECK.noArgument("work(least)", () -> x.work(Integer.MIN_VALUE));
        CHECK.same("work(most)", 4, x.work(Integer.MAX_VALUE));
        CHECK.same("work(1) behind all", 4, x.work(1));
        states("all worked off", x, 2, 2);
        CHECK.same("events() behind all", 4, x.events());
    }

    private static void smallestFirstThatIsNotLess() {
        // The weights part 0 and 1. Then 2 goes on 60 rather than on 100, and 3 on 100 rather than on none.
        Stevedore x = imports(yard(3, 3, 3), 10, 5, 30, 3, 10, 3, 10, 4);
        x.work(2);
        stack("two", x, 0, 0);
        stack("two", x, 1, 1);
        x.work(1);
        stack("60 on 60", x, 1, 1, 2);
        x.work(1);
        stack("80 on 100", x, 0, 0, 3);
        CHECK.same("blocking()", 0, x.blocking());
    }

    private static void greatestFirstElse() {
        Stevedore x = imports(yard(3, 3), 10, 3, 30, 5, 10, 9);
        x.work(3);
        stack("180 on 100 and not on 60", x, 0, 0);
        stack("180 on 100 and not on 60", x, 1, 1, 2);
        CHECK.same("blocking()", 1, x.blocking());
    }

    private static void smallestNumberElse() {
        Stevedore x = imports(yard(1, 2, 2, 2), 10, 3, 30, 3, 9, 3, 9, 9);
        x.work(1);
        stack("empty ones are alike", x, 0, 0);
        x.work(1);
        stack("the next one", x, 1, 1);
        x.work(2);
        stack("60 on 60", x, 1, 1, 2);
        stack("180 on an empty one", x, 2, 3);
        Stevedore y = imports(yard(2, 2), 1, 3, 10, 3, 1, 9, 1, 9);
        y.work(2);
        stack("apart by weights", y, 0, 0);
        stack("apart by weights", y, 1, 1);
        y.work(1);
        stack("180 on 60 or 60", y, 0, 0, 2);
        y.work(1);
        stack("180 on 60 or 60, the other one", y, 1, 1, 3);
    }

    private static void notLighterByMoreThanEight() {
        Stevedore x = imports(yard(5), 10, 9, 18, 9, 26, 9, 35, 9, 1, 9);
        x.work(5);
        stack("8 lighter is fine, 9 is not", x, 0, 0, 1, 2, 4);
        states("8 lighter is fine, 9 is not", x, 1, 1, 1, 3, 1);
    }

    private static void turnedAway() {
        Stevedore x = imports(yard(), 10, 9, 10, 8);
        CHECK.same("work(2) without stacks", 2, x.work(2));
        states("no stacks", x, 3, 3);
        CHECK.same("wouldTake(0)", -2, x.wouldTake(0));
        CHECK.same("work(9)", 4, x.work(9));
        states("no stacks, all worked off", x, 3, 3);
        CHECK.same("reshuffles()", 0, x.reshuffles());
        Stevedore y = imports(yard(1), 10, 9, 10, 8, 10, 7);
        y.work(3);
        states("one place", y, 1, 3, 3);
        CHECK.same("inTheEnd(1)", 2, y.inTheEnd(1));
        y.work(9);
        states("one place, all worked off", y, 2, 3, 3);
    }

    /** Container 2 stands on 0, as 1 fills the other stack; 1 goes first, then 2 has to give way to 0. */
    private static Stevedore oneAbove() {
        Stevedore x = imports(yard(2, 1), 10, 4, 40, 3, 18, 9);
        x.work(3);
        stack("one above", x, 0, 0, 2);
        stack("one above", x, 1, 1);
        return x;
    }

    private static void reshuffled() {
        Stevedore x = oneAbove();
        CHECK.same("blocking()", 1, x.blocking());
        CHECK.same("wouldTake(0) with no place for 2", -1, x.wouldTake(0));
        CHECK.same("wouldTake(2)", 0, x.wouldTake(2));
        CHECK.same("wouldTake(1)", 0, x.wouldTake(1));
        x.work(1);
        states("1 is gone", x, 1, 2, 1);
        CHECK.same("wouldTake(0) with a place for 2", 1, x.wouldTake(0));
        stack("wouldTake moves nothing", x, 0, 0, 2);
        CHECK.same("reshuffles()", 0, x.reshuffles());
        CHECK.same("inTheEnd(0)", 1, x.inTheEnd(0));
        x.work(1);
        states("0 is gone", x, 2, 2, 1);
        stack("0 is gone", x, 0);
        stack("0 is gone", x, 1, 2);
        CHECK.same("reshuffles()", 1, x.reshuffles());
        CHECK.same("wouldTake(0), gone", -2, x.wouldTake(0));
        x.work(1);
        states("all are gone", x, 2, 2, 2);
        CHECK.same("reshuffles() in the end", 1, x.reshuffles());
    }

    private static void reshuffledOnTwoStacks() {
        // 0 stands on 0, 1 and 2 shut the others till 60, so 3, 4 and 5 go on 0.
        Stevedore x = imports(yard(4, 1, 2), 10, 4, 30, 3, 40, 3, 12, 9, 10, 10, 9, 11);
        x.work(3);
        stack("three", x, 0, 0);
        stack("three", x, 1, 1);
        stack("three", x, 2, 2);
        x.work(3);
        // 3 goes on FIRST 80 rather than 60; so do 4 and 5.
        stack("six", x, 0, 0, 3, 4, 5);
        CHECK.same("blocking()", 3, x.blocking());
        x.work(2);
        CHECK.same("wouldTake(0)", 3, x.wouldTake(0));
        CHECK.same("wouldTake(3)", 2, x.wouldTake(3));
        x.work(1);
        states("behind three reshuffles", x, 2, 2, 2, 1, 1, 1);
        CHECK.same("reshuffles()", 3, x.reshuffles());
        // 5 first, on the empty stack 1; then 4, on the empty stack 2 (stack 1 is full); then 3 on 4.
        stack("behind three reshuffles", x, 1, 5);
        stack("behind three reshuffles", x, 2, 4, 3);
    }

    private static void missed() {
        Stevedore x = imports(yard(2), 10, 3, 10, 5, 10, 9);
        x.work(3);
        states("two and one turned away", x, 1, 1, 3);
        CHECK.same("wouldTake(0)", -1, x.wouldTake(0));
        x.work(1);
        states("0 is missed", x, 4, 1, 3);
        stack("0 is missed", x, 0, 0, 1);
        CHECK.same("wouldTake(0), missed", -1, x.wouldTake(0));
        x.work(1);
        states("1 is gone", x, 4, 2, 3);
        CHECK.same("wouldTake(0), missed but free", 0, x.wouldTake(0));
        x.work(9);
        states("in the end", x, 4, 2, 3);
        stack("in the end", x, 0, 0);
        CHECK.same("reshuffles()", 0, x.reshuffles());
    }

    private static void missedWithNothingMoved() {
        // Above 0 stand 2 and 3; there is a place for 3, but none for 2 then.
        Stevedore x = imports(yard(3, 1), 10, 4, 40, 3, 12, 9, 12, 10);
        x.work(4);
        stack("two above", x, 0, 0, 2, 3);
        x.work(1);
        CHECK.same("wouldTake(0)", -1, x.wouldTake(0));
        CHECK.same("wouldTake(2)", 1, x.wouldTake(2));
        x.work(1);
        states("0 is missed", x, 4, 2, 1, 1);
        stack("0 is missed", x, 0, 0, 2, 3);
        stack("0 is missed", x, 1);
        CHECK.same("reshuffles()", 0, x.reshuffles());
        x.work(1);
        CHECK.same("reshuffles() as 2 leaves", 1, x.reshuffles());
        stack("2 is gone", x, 1, 3);
        x.work(1);
        states("in the end", x, 4, 2, 2, 2);
        CHECK.same("inTheEnd(2)", 1, x.inTheEnd(2));
        CHECK.same("inTheEnd(3)", 1, x.inTheEnd(3));
    }

    private static void exportsGoThroughTheYard() {
        Stevedore x = new Stevedore();
        x.addStack(2);
        x.addVessel(60, 1, 1, 1);
        x.addContainer(0, 0, true, 10, 1);
        x.addContainer(0, 0, true, 10, 0);
        x.plan();
        CHECK.same("giveSlots()", 0, x.giveSlots());
        // 1 comes at 0, 0 at 20; 0 is moved at 62, so taken out at 60; 1 at 62.
        event(x, 2, 60, 2, 0);
        event(x, 3, 62, 2, 1);
        x.work(2);
        stack("both came", x, 0, 1, 0);
        CHECK.same("blocking()", 0, x.blocking());
        x.work(1);
        states("0 is on the vessel", x, 2, 1);
        x.work(1);
        states("both are on the vessel", x, 2, 2);
    }

    private static void importsWithoutSlotStay() {
        Stevedore x = yard(3, 3);
        for (int s = 0; s < 16; s++) {
            x.setRoom(s, s == 5 ? 1 : 0);
        }
        x.addContainer(0, 0, false, 10, 5);
        x.addContainer(0, 0, false, 10, 5);
        x.addContainer(0, 0, false, 10, 5);
        x.plan();
        CHECK.same("giveSlots()", 80, x.giveSlots());
        CHECK.same("events()", 4, x.events());
        x.work(3);
        // 1000 is more than 100, but less than 2000; the third one goes on the second one.
        stack("without a slot", x, 0, 0);
        stack("without a slot", x, 1, 1, 2);
        CHECK.same("blocking()", 0, x.blocking());
        CHECK.same("inTheEnd(3)", 2, x.inTheEnd(3));
        x.work(1);
        states("in the end", x, 2, 1, 1);
        states("export without a slot", exportWithoutSlot(), 0);
    }

    private static Stevedore exportWithoutSlot() {
        Stevedore x = yard(3);
        x.addContainer(0, 0, true, 10, 5);
        x.plan();
        x.giveSlots();
        CHECK.same("events() of an export without a slot", 0, x.events());
        CHECK.same("work(3)", 0, x.work(3));
        return x;
    }

    private static void blocks() {
        // Not only what is right below counts: 3 is above 0, with 2 between them.
        Stevedore x = imports(yard(5), 20, 3, 20, 5, 20, 4, 20, 3, 20, 2);
        x.work(5);
        CHECK.same("blocking(): 100 and 80 on 60, but neither 60 nor 40", 2, x.blocking());
        stack("five", x, 0, 0, 1, 2, 3, 4);
    }

    private static void tidied() {
        Stevedore x = oneAbove();
        CHECK.same("tidy(5) with no place for 2", 0, x.tidy(5));
        x.work(1);
        CHECK.same("tidy(0)", 0, x.tidy(0));
        CHECK.same("blocking() behind tidy(0)", 1, x.blocking());
        CHECK.noArgument("tidy(-1)", () -> x.tidy(-1));
        CHECK.noArgument("tidy(least)", () -> x.tidy(Integer.MIN_VALUE));
        CHECK.same("tidy(most)", 1, x.tidy(Integer.MAX_VALUE));
        CHECK.same("blocking() behind tidy(most)", 0, x.blocking());
        CHECK.same("reshuffles()", 1, x.reshuffles());
        stack("tidied", x, 0, 0);
        stack("tidied", x, 1, 2);
        CHECK.same("tidy(most) again", 0, x.tidy(Integer.MAX_VALUE));
        x.work(9);
        states("tidied, in the end", x, 2, 2, 2);
        CHECK.same("reshuffles() in the end", 1, x.reshuffles());
    }

    private static void tidiedInOrder() {
        // By their weights 4 stands on 0, and 5 on 1; as 2 and 3 have gone, two stacks of height 1 are empty.
        Stevedore x = imports(yard(2, 2, 1, 1), 30, 4, 10, 5, 40, 2, 40, 2, 38, 12, 18, 11);
        x.work(6);
        stack("six", x, 0, 0, 4);
        stack("six", x, 1, 1, 5);
        x.work(2);
        CHECK.same("blocking()", 2, x.blocking());
        CHECK.same("tidy(1)", 1, x.tidy(1));
        stack("behind tidy(1)", x, 0, 0);
        stack("behind tidy(1)", x, 2, 4);
        stack("behind tidy(1)", x, 3);
        CHECK.same("reshuffles()", 1, x.reshuffles());
        CHECK.same("tidy(2)", 1, x.tidy(2));
        stack("behind tidy(2)", x, 1, 1);
        stack("behind tidy(2)", x, 3, 5);
        CHECK.same("reshuffles()", 2, x.reshuffles());
        CHECK.same("blocking()", 0, x.blocking());
    }

    private static void inTheEnd() {
        Stevedore x = imports(yard(2, 1), 10, 3, 10, 5, 10, 9, 10, 12);
        long before = x.digest();
        // 1 goes on the empty stack, so 2 on 0, and 3 is turned away; 0 is missed, as 2 can go nowhere.
        int[] due = {x.inTheEnd(0), x.inTheEnd(1), x.inTheEnd(2), x.inTheEnd(3)};
        CHECK.same("digest() behind them", before, x.digest());
        CHECK.same("inTheEnd(1)", 1, due[1]);
        CHECK.same("inTheEnd(2)", 1, due[2]);
        CHECK.same("inTheEnd(3)", 1, due[3]);
        for (int i = 0; i < 8; i++) {
            for (int what = 0; what < 4; what++) {
                CHECK.same("inTheEnd(" + what + ") behind " + i, due[what], x.inTheEnd(what));
            }
            x.work(1);
        }
        CHECK.same("reshuffles()", due[0], x.reshuffles());
        states("in the end", x, 4, 2, 2, 3);
        int[] wrong = {-1, 4, Integer.MIN_VALUE, Integer.MAX_VALUE};
        for (int what : wrong) {
            CHECK.noArgument("inTheEnd(" + what + ")", () -> x.inTheEnd(what));
        }
        Stevedore y = oneAbove();
        y.work(1);
        y.tidy(1);
        CHECK.same("inTheEnd(0) counts those of tidy, too", 1, y.inTheEnd(0));
    }

    private static void thingsThatAreNotThere() {
        Stevedore x = imports(yard(2, 1), 10, 3, 10, 5);
        x.work(2);
        int[] noContainer = {-1, 2, 24, Integer.MIN_VALUE, Integer.MAX_VALUE};
        for (int c : noContainer) {
            CHECK.noIndex("stateOf(" + c + ")", () -> x.stateOf(c));
            CHECK.noIndex("stackOf(" + c + ")", () -> x.stackOf(c));
            CHECK.noIndex("wouldTake(" + c + ")", () -> x.wouldTake(c));
        }
        int[] noStack = {-1, 2, 12, Integer.MIN_VALUE, Integer.MAX_VALUE};
        for (int s : noStack) {
            CHECK.noIndex("heightOf(" + s + ")", () -> x.heightOf(s));
            CHECK.noIndex("containerAt(" + s + ", 0)", () -> x.containerAt(s, 0));
        }
        int[] noLevel = {-1, 1, 2, 5, Integer.MIN_VALUE, Integer.MAX_VALUE};
        for (int level : noLevel) {
            CHECK.noIndex("containerAt(0, " + level + ")", () -> x.containerAt(0, level));
        }
        CHECK.same("containerAt(0, 0)", 0, x.containerAt(0, 0));
        CHECK.same("containerAt(1, 0)", 1, x.containerAt(1, 0));
    }
}
