/** What is gone whenever something is added, set, made or given, a sentence each; and what is not. */
public final class EdgesOfForgettingTest {
    private static final Check CHECK = new Check("EdgesOfForgettingTest");
    private static final Runs RUNS = new Runs(CHECK);
    /** 0 was missed, 1 is gone, 2 stands where tidy put it, 3 was turned away, and 4 has not come yet. */
    private static final String BUSY = "addVessel 0 1 1 1; addVessel 400 1 1 1; addStack 3; addStack 1; "
            + "addContainer 0 0 import 10 3; addContainer 0 0 import 18 4; addContainer 0 0 import 10 9; "
            + "addContainer 0 0 import 40 9; addContainer 1 0 import 40 9; plan = 0; giveSlots = 40; work 6 = 6; "
            + "tidy 1 = 1; ";
    private static final String AS_IT_WAS = "stateOf 0 = 4; stateOf 1 = 2; stateOf 2 = 1; stateOf 3 = 3; "
            + "stateOf 4 = 0; stackOf 0 = 0; stackOf 2 = 1; reshuffles = 1; work 0 = 6; slotOf 1 = 4; events = 9";
    private static final String YARD_EMPTY = "stateOf 0 = 0; stateOf 1 = 0; stateOf 2 = 0; stateOf 3 = 0; "
            + "stateOf 4 = 0; stackOf 0 = -1; stackOf 1 = -1; stackOf 2 = -1; heightOf 0 = 0; heightOf 1 = 0; "
            + "containerAt 0 0 = index; wouldTake 0 = -2; wouldTake 2 = -2; reshuffles = 0; blocking = 0; "
            + "tidy MAX = 0";
    private static final String NO_SLOTS = "slotOf 0 = state; inSlot 0 = state; work 0 = state; inTheEnd 0 = state";
    private static final String NO_EVENTS = "events = 0; timeOf 0 = index; kindOf 0 = index; containerOf 0 = index";
    private static final String NO_PLAN = "isPlanned = false; orderAt 0 = state; startOf 0 = state; placeOf 0 = state; "
            + "vesselAt 0 0 = state; cranesAt 0 = state; movedAt 0 = state; giveSlots = state; costIf 0 0 = state; "
            + "meanWait = 0.0";
    private static final String A_PLAN = "isPlanned = true; orderAt 0 = 0; startOf 1 = 400; movedAt 0 = 2";

    public static void main(String[] args) {
        RUNS.holds("the terminal in the midst of its work", BUSY, AS_IT_WAS);
        for (String call : new String[] {"addVessel 0 1 1 1", "setVessel 0 0 1", "setVessel 1 0 2",
            "addContainer 0 0 import 1 9", "addContainer 1 0 export 40 0", "setQuay 20", "setQuay 60", "setCranes 3",
            "setCranes 1"}) {
            planGone(call);
        }
        for (String call : new String[] {"setWish 0 3", "setWish 4 0", "setRoom 3 2", "setRoom 15 0", "plan"}) {
            slotsGone(call);
        }
        yardGone("giveSlots");
        yardGone("addStack 1");
        yardGone("addStack 5");
        for (String call : new String[] {"digest", "meanWait", "delayByNumbers", "delayIf 0 400", "costIf 3 0",
            "inTheEnd 3", "wouldTake 2", "work 0", "tidy 0", "tidy MAX", "vesselAt 0 0", "cranesAt 0", "movedAt 0"}) {
            RUNS.holds(call + ": nothing is gone", BUSY, call, AS_IT_WAS, A_PLAN);
        }
        CHECK.end();
    }

    private static void planGone(String call) {
        RUNS.holds(call + ": there is no plan", BUSY, call, NO_PLAN);
        RUNS.holds(call + ": there are no slots", BUSY, call, NO_SLOTS);
        RUNS.holds(call + ": nor are there with the next plan", BUSY, call, "plan", NO_SLOTS);
        RUNS.holds(call + ": all events are gone", BUSY, call, NO_EVENTS);
        RUNS.holds(call + ": nor are they there with the next plan", BUSY, call, "plan", NO_EVENTS);
        RUNS.holds(call + ": the yard is empty", BUSY, call, YARD_EMPTY);
        RUNS.holds(call + ": with the next slots it begins anew", BUSY, call, "plan; giveSlots; work 0 = 0",
                YARD_EMPTY);
    }

    private static void slotsGone(String call) {
        RUNS.holds(call + ": the plan stays", BUSY, call, A_PLAN);
        RUNS.holds(call + ": there are no slots", BUSY, call, NO_SLOTS);
        RUNS.holds(call + ": all events are gone", BUSY, call, NO_EVENTS);
        RUNS.holds(call + ": the yard is empty", BUSY, call, YARD_EMPTY);
        RUNS.holds(call + ": with the next slots it begins anew", BUSY, call, "giveSlots; work 0 = 0", YARD_EMPTY);
    }

    private static void yardGone(String call) {
        RUNS.holds(call + ": the plan stays", BUSY, call, A_PLAN);
        RUNS.holds(call + ": there are slots", BUSY, call, "slotOf 0 = 3; slotOf 4 = -1; inSlot 9 = 2; inTheEnd 0 = 0");
        RUNS.holds(call + ": there are events", BUSY, call, "events = 9; timeOf 8 = 402; timeOf 9 = index");
        RUNS.holds(call + ": the yard is empty", BUSY, call, YARD_EMPTY);
        RUNS.holds(call + ": no event has been worked off", BUSY, call,
                "work 0 = 0; work 1 = 1; stateOf 0 = 1; work MAX = 9");
    }
}
