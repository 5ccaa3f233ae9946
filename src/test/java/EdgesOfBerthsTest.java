/** The edges of promises 21 to 29 and 49 and of section 3, a sentence each: who lies where and from when on. */
public final class EdgesOfBerthsTest {
    private static final Check CHECK = new Check("EdgesOfBerthsTest");
    private static final Runs RUNS = new Runs(CHECK);
    /** Each is handled in 7 ticks, and takes the whole quay. */
    private static final String TWO_BY_TURNS = "setQuay 4; addVessel 0 4 1 1; addVessel 0 4 1 1; ";

    public static void main(String[] args) {
        noVessel();
        cannotBePlannedForBays();
        cannotBePlannedForCranes();
        isPlanned();
        noSuchPlaceOrVessel();
        noSuchBerth();
        whenAndWhereOneLies();
        startAndEnd();
        besideEachOther();
        craneNeeds();
        smallestPlace();
        whichOrder();
        delayByNumbers();
        delayIf();
        meanWait();
        CHECK.end();
    }

    private static void noVessel() {
        RUNS.holds("21: there is no vessel", "plan = state; isPlanned = false");
        RUNS.holds("21: there is no vessel, but stacks", "addStack 3; setQuay 9; plan = state; isPlanned = false");
        RUNS.holds("21: one vessel", "addVessel 0 1 1 1; plan = 0; isPlanned = true");
        RUNS.holds("21: six vessels", "setCranes 6; 6 x addVessel 0 1 9 1; plan = 0; isPlanned = true");
        RUNS.holds("28: there is no vessel", "delayByNumbers = state");
        RUNS.holds("28: one vessel", "addVessel 0 1 1 1; delayByNumbers = 0; isPlanned = false");
        RUNS.holds("29: there is no vessel", "delayIf 0 0 = index; delayIf 0 401 = index; delayIf -1 0 = index");
    }

    private static void cannotBePlannedForBays() {
        RUNS.holds("21: 4 bays on 4 berths",
                "setQuay 4; addVessel 0 4 1 1; plan = 0; delayByNumbers = 0; delayIf 0 9 = 0");
        RUNS.holds("21: 5 bays on 4 berths",
                "setQuay 4; addVessel 0 5 1 1; plan = -1; delayByNumbers = -1; delayIf 0 9 = -1");
        RUNS.holds("21: 10 bays on 10 berths", "setQuay 10; addVessel 0 10 1 1; plan = 0");
        RUNS.holds("21: 10 bays on 9 berths", "setQuay 9; addVessel 0 10 1 1; plan = -1");
        RUNS.holds("21: then there is no plan at all", "setQuay 4; addVessel 0 4 1 1; addVessel 0 5 1 1; plan = -1",
                "isPlanned = false; startOf 0 = state; orderAt 0 = state; meanWait = 0.0; giveSlots = state");
        RUNS.holds("21: the last of six cannot", "setQuay 4; 5 x addVessel 0 1 1 1; addVessel 400 5 9 1; plan = -1");
        RUNS.holds("21: the first of six cannot", "setQuay 4; addVessel 400 5 9 1; 5 x addVessel 0 1 1 1; plan = -1");
        RUNS.holds("21: it can on a longer quay",
                "setQuay 4; addVessel 0 5 1 1; plan = -1; setQuay 5; plan = 0; isPlanned = true");
        RUNS.holds("21: one that could be planned cannot any more",
                "setQuay 5; addVessel 0 5 1 1; plan = 0; setQuay 4; isPlanned = false; plan = -1; isPlanned = false");
    }

    private static void cannotBePlannedForCranes() {
        RUNS.holds("21: wants 1 of 1", "setCranes 1; addVessel 0 1 1 1; plan = 0");
        RUNS.holds("21: wants 2 of 1",
                "setCranes 1; addVessel 0 9 1 2; plan = -1; delayByNumbers = -1; delayIf 0 9 = -1");
        RUNS.holds("21: wants 3 of 3", "addVessel 0 9 1 3; plan = 0");
        RUNS.holds("21: wants 4 of 3", "addVessel 0 9 1 4; plan = -1");
        RUNS.holds("21: what it wants counts, also if it has fewer ranges",
                "addVessel 0 1 1 4; ranges 0 = 1; plan = -1; setCranes 4; plan = 0");
        RUNS.holds("21: wants fewer from now on", "addVessel 0 1 1 4; plan = -1; setVessel 0 0 3; plan = 0");
        RUNS.holds("21: no plan at all for one that wants too many", "addVessel 0 1 1 1; addVessel 0 1 1 4; plan = -1",
                "isPlanned = false; startOf 0 = state; cranesAt 0 = state; vesselAt 0 0 = state");
    }

    private static void isPlanned() {
        RUNS.holds("22: not at first", "isPlanned = false");
        RUNS.holds("22: not by a vessel", "addVessel 0 1 1 1; isPlanned = false");
        RUNS.holds("22: not by asking", "addVessel 0 1 1 1; delayByNumbers = 0; delayIf 0 5 = 0; isPlanned = false");
        RUNS.holds("22: with a plan", "addVessel 0 1 1 1; plan = 0; isPlanned = true; plan = 0; isPlanned = true");
        RUNS.holds("22: still behind refused calls",
                "addVessel 0 1 1 1; plan = 0; setQuay 3 = argument; setCranes 7 = argument",
                "addVessel 0 1 1 5 = argument; setVessel 1 0 1 = index; setVessel 0 -1 1 = argument",
                "addContainer 0 1 import 1 1 = index; addContainer 0 0 import 41 1 = argument; isPlanned = true",
                "startOf 0 = 0");
        RUNS.holds("22: still behind a seventh vessel and a 25th container",
                "6 x addVessel 0 1 1 1; 24 x addContainer 0 0 import 1 0",
                "plan; addVessel 0 1 1 1 = state; addContainer 0 0 import 1 0 = state; isPlanned = true");
    }

    private static void noSuchPlaceOrVessel() {
        String[] calls = {"orderAt", "startOf", "placeOf"};
        String two = "setCranes 6; addVessel 0 1 1 1; addVessel 0 1 1 1; ";
        for (String call : calls) {
            String name = "23 to 25: " + call;
            RUNS.holds(name + ", no plan", two + call + " 0 = state; " + call + " 1 = state");
            RUNS.holds(name + ", no plan first, then no such one",
                    two + call + " -1 = state; " + call + " 2 = state; " + call + " MAX = state");
            RUNS.holds(name + ", no plan and no vessel", call + " 0 = state; " + call + " -1 = state");
            RUNS.holds(name + ", the first one", two + "plan = 0; " + call + " 0 = 0");
            RUNS.holds(name + ", the last one", two + "plan = 0; " + call + " 1");
            RUNS.holds(name + ", -1 is none", two + "plan = 0; " + call + " -1 = index");
            RUNS.holds(name + ", one more than the last is none", two + "plan = 0; " + call + " 2 = index");
            RUNS.holds(name + ", the ends of int are none",
                    two + "plan = 0; " + call + " MIN = index; " + call + " MAX = index");
            RUNS.holds(name + ", the sixth is, the seventh is none",
                    "6 x addVessel 0 1 1 1; plan; " + call + " 5; " + call + " 6 = index");
            RUNS.holds(name + ", a plan that is gone",
                    two + "plan = 0; setQuay 20; " + call + " 0 = state; " + call + " 2 = state");
        }
        RUNS.holds("23: the order of one", "addVessel 0 1 1 1; plan; orderAt 0 = 0; orderAt 1 = index");
    }

    private static void noSuchBerth() {
        String one = "addVessel 0 1 1 1; ";
        RUNS.holds("26: no plan", one + "vesselAt 0 0 = state");
        RUNS.holds("26: no plan first, then no such berth",
                one + "vesselAt -1 0 = state; vesselAt 20 0 = state; vesselAt MAX MAX = state");
        RUNS.holds("26: the first and the last berth of 20", one + "plan; vesselAt 0 0 = 0; vesselAt 19 0 = -1");
        RUNS.holds("26: berth -1 is none", one + "plan; vesselAt -1 0 = index");
        RUNS.holds("26: berth 20 of 20 is none", one + "plan; vesselAt 20 0 = index");
        RUNS.holds("26: the ends of int are no berths", one + "plan; vesselAt MIN 0 = index; vesselAt MAX 0 = index");
        RUNS.holds("26: the last berth of 4", "setQuay 4; " + one + "plan; vesselAt 3 0 = -1; vesselAt 4 0 = index");
        RUNS.holds("26: the last berth of 60",
                "setQuay 60; " + one + "plan; vesselAt 59 0 = -1; vesselAt 60 0 = index");
        RUNS.holds("26: a vessel on the last berth",
                "setQuay 10; addVessel 0 10 1 1; plan; vesselAt 9 0 = 0; vesselAt 10 0 = index");
    }

    private static void whenAndWhereOneLies() {
        String one = "addVessel 9 3 1 3; plan = 0; handling 0 = 2; ";
        RUNS.holds("26: its first berth, at its START", one + "placeOf 0 = 0; vesselAt 0 9 = 0; cranesAt 9 = 3");
        RUNS.holds("26: its last berth", one + "vesselAt 2 9 = 0");
        RUNS.holds("26: the berth behind it", one + "vesselAt 3 9 = -1");
        RUNS.holds("26: a tick ahead of its START", one + "vesselAt 0 8 = -1; cranesAt 8 = 0");
        RUNS.holds("26: its last tick", one + "vesselAt 0 10 = 0; cranesAt 10 = 3");
        RUNS.holds("26: its end is not counted", one + "vesselAt 0 11 = -1; cranesAt 11 = 0");
        RUNS.holds("26: times less than 0",
                one + "vesselAt 0 -1 = -1; vesselAt 0 MIN = -1; cranesAt -1 = 0; cranesAt MIN = 0");
        RUNS.holds("26: the greatest time", one + "vesselAt 0 MAX = -1; cranesAt MAX = 0");
        RUNS.holds("26: the berth ahead of its first one",
                "setCranes 6; addVessel 0 3 1 1; addVessel 0 2 1 1; plan = 0",
                "placeOf 1 = 4; vesselAt 2 0 = 0; vesselAt 3 0 = -1; vesselAt 4 0 = 1; vesselAt 5 0 = 1",
                "vesselAt 6 0 = -1");
        RUNS.holds("26: START at the greatest arrival",
                "addVessel 400 1 1 1; plan = 0; vesselAt 0 400 = 0; vesselAt 0 401 = -1; vesselAt 0 399 = -1");
        RUNS.holds("27: no plan", "cranesAt 0 = state; addVessel 0 1 1 1; cranesAt 0 = state; cranesAt MIN = state");
        RUNS.holds("27: a time at which nobody lies there", one + "cranesAt 0 = 0; cranesAt 12 = 0");
        RUNS.holds("27: one goes as the other one comes",
                TWO_BY_TURNS + "plan = 7; cranesAt 0 = 1; cranesAt 6 = 1; cranesAt 7 = 1; cranesAt 13 = 1",
                "cranesAt 14 = 0");
        RUNS.holds("26: the last one of six",
                "setCranes 6; 6 x addVessel 9 1 1 1; plan = 0; placeOf 5 = 10; vesselAt 10 9 = 5",
                "vesselAt 11 9 = -1; vesselAt 19 0 = -1; vesselAt 10 10 = -1");
        RUNS.holds("27: all six",
                "setCranes 6; 6 x addVessel 9 1 1 1; plan = 0; cranesAt 9 = 6; cranesAt 8 = 0; cranesAt 10 = 0");
        RUNS.holds("27: as many as there are",
                "setCranes 6; addVessel 0 1 1 4; addVessel 0 1 1 2; plan = 0; cranesAt 0 = 6; cranesAt 1 = 0");
    }

    private static void startAndEnd() {
        RUNS.holds("24: not ahead of its arrival, the least", "addVessel 0 1 1 1; plan = 0; startOf 0 = 0");
        RUNS.holds("24: not ahead of its arrival, the greatest", "addVessel 400 10 9 1; plan = 0; startOf 0 = 400");
        RUNS.holds("24: as the other one ends",
                TWO_BY_TURNS + "plan = 7; startOf 0 = 0; startOf 1 = 7; vesselAt 0 6 = 0; vesselAt 0 7 = 1");
        RUNS.holds("24: arrives as the other one ends", TWO_BY_TURNS + "setVessel 1 7 1; plan = 0; startOf 1 = 7");
        RUNS.holds("24: arrives a tick ahead of the other one's end",
                TWO_BY_TURNS + "setVessel 1 6 1; plan = 1; startOf 1 = 7");
        RUNS.holds("24: ends as the other one comes",
                TWO_BY_TURNS + "setVessel 0 7 1; plan = 0; startOf 0 = 7; startOf 1 = 0");
        RUNS.holds("24: ends as the other one comes, by numbers, too",
                TWO_BY_TURNS + "setVessel 0 7 1; delayByNumbers = 0",
                "plan = 0; orderAt 0 = 0; startOf 0 = 7; startOf 1 = 0");
        RUNS.holds("24: would end a tick behind the other one's coming",
                TWO_BY_TURNS + "setVessel 0 6 1; plan = 1; startOf 0 = 7; startOf 1 = 0; orderAt 0 = 1");
        RUNS.holds("24: all six, one behind the other, all of rank 9",
                "setQuay 10; setCranes 1; 6 x addVessel 0 10 9 1; plan = 2565; startOf 5 = 95; startOf 0 = 0",
                "vesselAt 9 113 = 5; vesselAt 9 114 = -1");
        RUNS.holds("24: all six at the greatest arrival",
                "setQuay 10; setCranes 1; 6 x addVessel 400 10 9 1; plan = 2565; startOf 5 = 495");
    }

    private static void besideEachOther() {
        RUNS.holds("25: one berth between them",
                "setQuay 9; addVessel 0 4 1 1; addVessel 0 4 1 1; plan = 0; placeOf 0 = 0; placeOf 1 = 5");
        RUNS.holds("25: no berth between them",
                "setQuay 8; addVessel 0 4 1 1; addVessel 0 4 1 1; plan = 7; placeOf 0 = 0; placeOf 1 = 0");
        RUNS.holds("25: one more and less than the quay",
                "setQuay 5; addVessel 0 3 1 1; addVessel 0 1 1 1; plan = 0; placeOf 0 = 0; placeOf 1 = 4");
        RUNS.holds("25: as many as there is place for",
                "setCranes 6; setQuay 5; 3 x addVessel 0 1 1 1; plan = 0; placeOf 2 = 4");
        RUNS.holds("25: one more than there is place for",
                "setCranes 6; setQuay 4; 3 x addVessel 0 1 1 1; plan = 1; placeOf 1 = 2; placeOf 2 = 0; startOf 2 = 1");
        RUNS.holds("25: beside one that is gone",
                "setQuay 8; addVessel 0 4 1 1; addVessel 7 4 1 1; plan = 0; startOf 1 = 7; placeOf 1 = 0");
        RUNS.holds("25: beside one that goes a tick later",
                "setQuay 8; addVessel 0 4 1 1; addVessel 6 4 1 1; plan = 1; startOf 1 = 7");
    }

    private static void craneNeeds() {
        RUNS.holds("24: as many as there are",
                "addVessel 0 1 1 2; addVessel 0 1 1 1; plan = 0; cranesAt 0 = 3; startOf 1 = 0");
        RUNS.holds("24: one more than there are",
                "addVessel 0 1 1 2; addVessel 0 1 1 2; plan = 1; cranesAt 0 = 2; startOf 1 = 1");
        RUNS.holds("24: as many as there are, of three", "3 x addVessel 0 1 1 1; plan = 0; cranesAt 0 = 3");
        RUNS.holds("24: one more than there are, of four",
                "4 x addVessel 0 1 1 1; plan = 1; cranesAt 0 = 3; cranesAt 1 = 1");
        RUNS.holds("24: the one that goes needs them no more",
                "setCranes 1; addVessel 0 1 1 1; addVessel 1 1 1 1; plan = 0; startOf 1 = 1");
        RUNS.holds("24: one that comes later needs them, too",
                "setCranes 1; addVessel 2 1 9 1; addVessel 0 2 1 1; handling 1 = 3; plan = 3; startOf 0 = 2",
                "startOf 1 = 3");
        RUNS.holds("24: one that comes later, and both are as many as there are",
                "addVessel 2 1 9 2; addVessel 0 2 1 1; handling 1 = 3; delayByNumbers = 0; plan = 0; cranesAt 2 = 3");
        RUNS.holds("24: one that comes later, and both are one more than there are",
                "setCranes 2; addVessel 2 1 9 2; addVessel 0 2 1 1; delayByNumbers = 3; plan = 3; startOf 1 = 3");
        RUNS.holds("24: one that comes later as another one goes", "setCranes 2; addVessel 0 1 9 1; addVessel 1 1 9 1",
                "addVessel 0 2 1 1; handling 2 = 3; delayByNumbers = 0; cranesAt 0 = state; plan = 0",
                "cranesAt 0 = 2; cranesAt 1 = 2");
        RUNS.holds("24: one that comes as it ends does not, by numbers, too",
                "setCranes 1; addVessel 3 1 9 1; addVessel 0 2 1 1; delayByNumbers = 0; plan = 0; orderAt 0 = 0");
        RUNS.holds("24: one that comes as it ends does not",
                "setCranes 1; addVessel 3 1 9 1; addVessel 0 2 1 1; plan = 0; startOf 0 = 3; startOf 1 = 0");
    }

    private static void smallestPlace() {
        RUNS.holds("25: the smallest one", "addVessel 0 1 1 1; plan; placeOf 0 = 0");
        RUNS.holds("25: the earliest START first, then the PLACE",
                "setQuay 6; addVessel 0 4 1 1; addVessel 0 1 1 1; plan = 0; startOf 1 = 0; placeOf 1 = 5");
        String long1 = "addVessel 0 3 1 1; addVessel 0 2 1 1; 10 x addContainer 1 0 import 1 0; placeOf 0 = state; ";
        RUNS.holds("25: a gap that is just enough",
                long1 + "addVessel 5 3 1 1; plan = 0; placeOf 1 = 4; startOf 2 = 5; placeOf 2 = 0");
        RUNS.holds("25: a gap that is too small by 1",
                long1 + "addVessel 5 4 1 1; plan = 0; placeOf 1 = 4; startOf 2 = 5; placeOf 2 = 7");
        RUNS.holds("25: up to the last berth",
                "setQuay 11; " + long1 + "addVessel 5 4 1 1; plan = 0; placeOf 2 = 7; vesselAt 10 5 = 2");
        RUNS.holds("25: a berth more than the last one", "setQuay 10; " + long1,
                "addVessel 5 4 1 1; handling 1 = 22; delayByNumbers = 17; plan = 0",
                "orderAt 1 = 2; placeOf 2 = 0; startOf 1 = 0; placeOf 1 = 5");
    }

    private static void whichOrder() {
        String byTurns = "setCranes 1; addVessel 1 2 1 1; addVessel 0 3 1 1; handling 0 = 3; handling 1 = 5; ";
        RUNS.holds("23: alike in DELAY, the least greatest end",
                byTurns + "plan = 4; delayByNumbers = 4; orderAt 0 = 1; orderAt 1 = 0; startOf 0 = 5; startOf 1 = 0");
        RUNS.holds("23: the DELAY first, though it ends later",
                "setCranes 1; addVessel 1 2 2 1; addVessel 0 3 1 1; plan = 4; orderAt 0 = 0; startOf 0 = 1",
                "startOf 1 = 4");
        RUNS.holds("23: all alike, the smaller number first",
                TWO_BY_TURNS + "plan = 7; orderAt 0 = 0; orderAt 1 = 1; startOf 1 = 7");
        RUNS.holds("23: none meets another one",
                "setCranes 6; setQuay 60; addVessel 5 1 1 1; addVessel 4 1 9 1; addVessel 3 1 1 1",
                "plan = 0; orderAt 0 = 0; orderAt 1 = 1; orderAt 2 = 2");
        RUNS.holds("23: the smaller number at the first place where they differ",
                "setCranes 1; addVessel 0 1 1 1; addVessel 0 2 1 1; addVessel 0 2 1 1; plan = 5; orderAt 0 = 0",
                "orderAt 1 = 1; orderAt 2 = 2");
        RUNS.holds("21: rank 9 ahead of rank 1",
                "setCranes 1; addVessel 0 2 1 1; addVessel 0 2 9 1; plan = 3; orderAt 0 = 1; startOf 0 = 3");
        RUNS.holds("21: rank * handling alike",
                "setCranes 1; addVessel 0 1 1 1; addVessel 0 2 3 1; plan = 3; orderAt 0 = 0; startOf 1 = 1");
        RUNS.holds("23: six vessels, the last one first and the first one last",
                "setCranes 1; addVessel 0 1 1 1; addVessel 0 1 2 1; addVessel 0 1 3 1; addVessel 0 1 4 1",
                "addVessel 0 1 5 1; addVessel 0 1 6 1; delayByNumbers = 70; plan = 35; orderAt 0 = 5; orderAt 1 = 4",
                "orderAt 2 = 3; orderAt 3 = 2; orderAt 4 = 1; orderAt 5 = 0; startOf 5 = 0; startOf 0 = 5");
        RUNS.holds("21: nobody waits", "addVessel 400 1 9 1; addVessel 399 1 9 1; plan = 0");
        RUNS.holds("21: planned again", TWO_BY_TURNS + "plan = 7; plan = 7; startOf 0 = 0; startOf 1 = 7");
    }

    private static void delayByNumbers() {
        RUNS.holds("28: the order by numbers",
                "setCranes 1; addVessel 0 2 1 1; addVessel 0 2 9 1; delayByNumbers = 27; plan = 3",
                "delayByNumbers = 27");
        RUNS.holds("28: six vessels", "setCranes 1; 6 x addVessel 0 1 1 1; delayByNumbers = 15; plan = 15");
        RUNS.holds("28: an order that a better one passes by",
                "setCranes 1; addVessel 0 4 1 1; addVessel 0 1 9 1; addVessel 0 1 9 1",
                "delayByNumbers = 135; plan = 11; orderAt 0 = 1; orderAt 1 = 2; orderAt 2 = 0");
        RUNS.holds("28: there is still no plan",
                "addVessel 0 1 1 1; delayByNumbers = 0; isPlanned = false; startOf 0 = state");
        RUNS.holds("28: the plan stays",
                "setCranes 1; addVessel 0 2 1 1; addVessel 0 2 9 1; plan = 3; delayByNumbers = 27; orderAt 0 = 1",
                "startOf 0 = 3; startOf 1 = 0");
        RUNS.holds("28: one cannot be planned",
                "setQuay 4; addVessel 0 4 1 1; addVessel 0 5 1 1; delayByNumbers = -1; isPlanned = false");
        RUNS.holds("28: slots and yard stay",
                "addVessel 0 1 1 1; addStack 1; addContainer 0 0 import 1 1; plan; giveSlots; work 1 = 1",
                "delayByNumbers = 0; stateOf 0 = 1; events = 2; slotOf 0 = 1; work 0 = 1");
    }

    private static void delayIf() {
        RUNS.holds("29: the last vessel, and one more", TWO_BY_TURNS + "delayIf 1 0 = 7; delayIf 2 0 = index");
        RUNS.holds("29: the first vessel, and -1", TWO_BY_TURNS + "delayIf 0 0 = 7; delayIf -1 0 = index");
        RUNS.holds("29: the ends of int are no vessels", TWO_BY_TURNS + "delayIf MIN 0 = index; delayIf MAX 0 = index");
        RUNS.holds("29: arrival 0 is the least", TWO_BY_TURNS + "setVessel 1 9 1; delayIf 1 0 = 7");
        RUNS.holds("29: arrival 400 is the most", TWO_BY_TURNS + "delayIf 1 400 = 0");
        RUNS.holds("29: arrival -1 is too small", TWO_BY_TURNS + "delayIf 1 -1 = argument");
        RUNS.holds("29: arrival 401 is too large", TWO_BY_TURNS + "delayIf 1 401 = argument");
        RUNS.holds("29: arrival, the ends of int", TWO_BY_TURNS + "delayIf 1 MIN = argument; delayIf 1 MAX = argument");
        RUNS.holds("29: no such vessel first, then arrival",
                TWO_BY_TURNS + "delayIf 2 401 = index; delayIf -1 -1 = index");
        RUNS.holds("29: as the other one ends",
                TWO_BY_TURNS + "delayIf 1 7 = 0; delayIf 1 6 = 1; delayIf 0 7 = 0; delayIf 0 6 = 1");
        RUNS.holds("29: the last of six",
                "setCranes 1; 6 x addVessel 0 1 1 1; delayIf 5 0 = 15; delayIf 5 5 = 10; delayIf 6 0 = index");
        RUNS.holds("29: one cannot be planned",
                "setQuay 4; addVessel 0 4 1 1; addVessel 0 5 1 1; delayIf 0 400 = -1; delayIf 0 401 = argument");
        RUNS.holds("29: its arrival stays",
                TWO_BY_TURNS + "delayIf 1 400 = 0; plan = 7; delayIf 1 400 = 0; delayIf 0 9 = 0",
                "setVessel 1 0 1 = 0; setVessel 0 0 1 = 0");
        RUNS.holds("29: the plan stays",
                TWO_BY_TURNS + "plan = 7; delayIf 0 7 = 0; isPlanned = true; orderAt 0 = 0; startOf 0 = 0",
                "startOf 1 = 7; meanWait = 3.5");
        RUNS.holds("29: there is still no plan", TWO_BY_TURNS + "delayIf 0 7 = 0; isPlanned = false");
        RUNS.holds("29: slots and yard stay",
                "addVessel 0 1 1 1; addStack 1; addContainer 0 0 import 1 1; plan; giveSlots; work 1 = 1",
                "delayIf 0 400 = 0; stateOf 0 = 1; events = 2; slotOf 0 = 1; work 0 = 1");
    }

    private static void meanWait() {
        RUNS.holds("49: no vessel", "meanWait = 0.0");
        RUNS.holds("49: no plan", TWO_BY_TURNS + "meanWait = 0.0");
        RUNS.holds("49: no plan, as one cannot be planned", "setQuay 4; addVessel 0 5 1 1; plan = -1; meanWait = 0.0");
        RUNS.holds("49: a plan that is gone", TWO_BY_TURNS + "plan = 7; meanWait = 3.5; setQuay 4; meanWait = 0.0");
        RUNS.holds("49: nobody waits", "addVessel 400 1 1 1; plan = 0; meanWait = 0.0");
        RUNS.holds("49: the first one waits",
                "setCranes 1; addVessel 0 2 1 1; addVessel 0 2 9 1; plan = 3; meanWait = 1.5");
        RUNS.holds("49: ranks do not count",
                "setQuay 4; addVessel 0 4 9 1; addVessel 0 4 9 1; plan = 63; meanWait = 3.5");
        RUNS.holds("49: a third", "4 x addVessel 0 1 1 1; setVessel 3 400 1; setCranes 1; plan = 3; meanWait = 0.75",
                "setVessel 2 300 1; plan = 1; meanWait = 0.25");
        RUNS.holds("49: all six, as long as can be",
                "setQuay 10; setCranes 1; 6 x addVessel 400 10 9 1; plan = 2565; meanWait = 47.5");
    }
}
