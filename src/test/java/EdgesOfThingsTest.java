/** The edges of promises 1 to 12 and of section 1, a sentence each: what there is. */
public final class EdgesOfThingsTest {
    private static final Check CHECK = new Check("EdgesOfThingsTest");
    private static final Runs RUNS = new Runs(CHECK);
    private static final String VESSEL = "addVessel 7 3 4 2 = 0";
    private static final String TWO_VESSELS = "addVessel 7 3 4 2 = 0; addVessel 0 10 1 1 = 1";
    private static final String CONTAINER = "addVessel 7 3 4 2 = 0; addContainer 0 1 import 10 3 = 0";

    public static void main(String[] args) {
        newObject();
        setQuay();
        setCranes();
        addVesselTooSmallOrLarge();
        addVesselFull();
        setVessel();
        addContainerWhereNothingIs();
        addContainerTooSmallOrLarge();
        addContainerFull();
        setWish();
        setRoom();
        addStack();
        counts();
        lastCalls();
        CHECK.end();
    }

    private static void newObject() {
        RUNS.holds("1: without vessels", "vessels = 0; ranges 0 = index");
        RUNS.holds("1: without containers", "containers = 0; stateOf 0 = index");
        RUNS.holds("1: without stacks", "stacks = 0; heightOf 0 = index");
        RUNS.holds("1: 20 berths, at first", "setQuay 60 = 20");
        RUNS.holds("1: 3 cranes, at first", "setCranes 6 = 3");
        for (int s = 0; s < 16; s++) {
            RUNS.holds("1: room for 2 in slot " + s + ", at first", "setRoom " + s + " 6 = 2");
        }
        RUNS.holds("1: there is no plan", "isPlanned = false; giveSlots = state; meanWait = 0.0");
        RUNS.holds("1: there are no slots", "events = 0; timeOf 0 = index; inSlot 0 = state; work 0 = state");
        RUNS.holds("1: the yard is empty", "reshuffles = 0; blocking = 0; tidy MAX = 0");
        RUNS.holds("1: the checksum of nothing", "digest = 1596391921176664");
    }

    private static void setQuay() {
        RUNS.holds("2: 4 is the least", "setQuay 4 = 20; setQuay 20 = 4");
        RUNS.holds("2: 60 is the most", "setQuay 60 = 20; setQuay 20 = 60");
        RUNS.holds("2: 3 is too small", "setQuay 3 = argument; setQuay 20 = 20");
        RUNS.holds("2: 61 is too large", "setQuay 61 = argument; setQuay 20 = 20");
        RUNS.holds("2: 0, less than 0 and the least int",
                "setQuay 0 = argument; setQuay -4 = argument; setQuay MIN = argument");
        RUNS.holds("2: the greatest int", "setQuay MAX = argument; setQuay 20 = 20");
        RUNS.holds("2: how many from now on, 4",
                "setQuay 4; addVessel 0 1 1 1; plan = 0; vesselAt 3 0 = -1; vesselAt 4 0 = index");
        RUNS.holds("2: how many from now on, 60",
                "setQuay 60; addVessel 0 1 1 1; plan = 0; vesselAt 59 0 = -1; vesselAt 60 0 = index");
        RUNS.holds("2: as many as it had", "setQuay 20 = 20; setQuay 20 = 20");
    }

    private static void setCranes() {
        RUNS.holds("3: 1 is the least", "setCranes 1 = 3; setCranes 3 = 1");
        RUNS.holds("3: 6 is the most", "setCranes 6 = 3; setCranes 3 = 6");
        RUNS.holds("3: 0 is too small", "setCranes 0 = argument; setCranes 3 = 3");
        RUNS.holds("3: 7 is too large", "setCranes 7 = argument; setCranes 3 = 3");
        RUNS.holds("3: less than 0 and the least int", "setCranes -1 = argument; setCranes MIN = argument");
        RUNS.holds("3: the greatest int", "setCranes MAX = argument; setCranes 3 = 3");
        RUNS.holds("3: how many from now on, 1",
                "setCranes 1; addVessel 0 1 1 1; plan = 0; addVessel 0 1 1 2; plan = -1");
        RUNS.holds("3: how many from now on, 6",
                "setCranes 6; addVessel 0 1 1 4; addVessel 0 1 1 2; plan = 0; cranesAt 0 = 6");
    }

    private static void addVesselTooSmallOrLarge() {
        RUNS.holds("4: arrival 0 is the least", "addVessel 0 3 4 2 = 0; setVessel 0 9 1 = 0");
        RUNS.holds("4: arrival 400 is the most", "addVessel 400 3 4 2 = 0; setVessel 0 9 1 = 400");
        refusedVessel("arrival -1 is too small", "-1 3 4 2");
        refusedVessel("arrival 401 is too large", "401 3 4 2");
        refusedVessel("arrival, the least int", "MIN 3 4 2");
        refusedVessel("arrival, the greatest int", "MAX 3 4 2");
        RUNS.holds("4: bays 1 is the least", "addVessel 7 1 4 2 = 0; work 0 0 = 0; work 0 1 = index");
        RUNS.holds("4: bays 10 is the most", "addVessel 7 10 4 2 = 0; work 0 9 = 0; work 0 10 = index");
        refusedVessel("bays 0 is too small", "7 0 4 2");
        refusedVessel("bays 11 is too large", "7 11 4 2");
        refusedVessel("bays, the least int", "7 MIN 4 2");
        refusedVessel("bays, the greatest int", "7 MAX 4 2");
        // One that has to wait a tick for the only crane tells the rank.
        String first = "setCranes 1; addVessel 0 1 9 1 = 0; ";
        RUNS.holds("4: rank 1 is the least", first + "addVessel 0 1 1 1 = 1; plan = 1");
        RUNS.holds("4: rank 9 is the most", first + "addVessel 0 1 9 1 = 1; plan = 9");
        refusedVessel("rank 0 is too small", "7 3 0 2");
        refusedVessel("rank 10 is too large", "7 3 10 2");
        refusedVessel("rank, the least int", "7 3 MIN 2");
        refusedVessel("rank, the greatest int", "7 3 MAX 2");
        RUNS.holds("4: cranes 1 is the least", "addVessel 7 10 4 1 = 0; ranges 0 = 1");
        RUNS.holds("4: cranes 4 is the most", "addVessel 7 10 4 4 = 0; ranges 0 = 4");
        refusedVessel("cranes 0 is too small", "7 3 4 0");
        refusedVessel("cranes 5 is too large", "7 3 4 5");
        refusedVessel("cranes, the least int", "7 3 4 MIN");
        refusedVessel("cranes, the greatest int", "7 3 4 MAX");
    }

    private static void refusedVessel(String sentence, String numbers) {
        RUNS.holds("4: " + sentence, "addVessel " + numbers + " = argument; vessels = 0; addVessel 0 1 1 1 = 0");
    }

    private static void addVesselFull() {
        RUNS.holds("4: the sixth is the last", "5 x addVessel 0 1 1 1; addVessel 0 1 1 1 = 5; vessels = 6");
        RUNS.holds("4: there are 6", "6 x addVessel 0 1 1 1; addVessel 0 1 1 1 = state; vessels = 6");
        RUNS.holds("4: there are 6, again", "6 x addVessel 0 1 1 1; 3 x addVessel 400 10 9 4 = state; vessels = 6");
        String six = "6 x addVessel 0 1 1 1; ";
        RUNS.holds("4: arrival first, then 6", six + "addVessel 401 1 1 1 = argument; addVessel -1 1 1 1 = argument");
        RUNS.holds("4: bays first, then 6", six + "addVessel 0 0 1 1 = argument; addVessel 0 11 1 1 = argument");
        RUNS.holds("4: rank first, then 6", six + "addVessel 0 1 0 1 = argument; addVessel 0 1 10 1 = argument");
        RUNS.holds("4: cranes first, then 6", six + "addVessel 0 1 1 0 = argument; addVessel 0 1 1 5 = argument");
        RUNS.holds("4: a refused one leaves the sixth place free",
                "5 x addVessel 0 1 1 1; addVessel 0 1 1 5 = argument; addVessel 0 1 1 1 = 5",
                "addVessel 0 1 1 1 = state");
        RUNS.holds("4: numbered from 0",
                "addVessel 9 1 1 1 = 0; addVessel 8 1 1 1 = 1; addVessel 7 1 1 1 = 2; setVessel 1 0 1 = 8");
    }

    private static void setVessel() {
        RUNS.holds("5: no vessel yet", "setVessel 0 0 1 = index");
        RUNS.holds("5: vessel 0 is the first", TWO_VESSELS, "setVessel 0 9 1 = 7; setVessel 1 9 1 = 0");
        RUNS.holds("5: the last one", TWO_VESSELS, "setVessel 1 9 1 = 0; setVessel 0 9 1 = 7");
        RUNS.holds("5: vessel -1 is none", TWO_VESSELS, "setVessel -1 9 1 = index");
        RUNS.holds("5: one more than the last is none", TWO_VESSELS, "setVessel 2 9 1 = index");
        RUNS.holds("5: the ends of int are none", TWO_VESSELS, "setVessel MIN 9 1 = index; setVessel MAX 9 1 = index");
        RUNS.holds("5: the sixth is, the seventh is none",
                "6 x addVessel 3 1 1 1; setVessel 5 9 1 = 3; setVessel 6 9 1 = index");
        RUNS.holds("5: arrival 0 is the least", VESSEL, "setVessel 0 0 2 = 7; setVessel 0 7 2 = 0");
        RUNS.holds("5: arrival 400 is the most", VESSEL, "setVessel 0 400 2 = 7; setVessel 0 7 2 = 400");
        RUNS.holds("5: arrival -1 is too small", VESSEL, "setVessel 0 -1 2 = argument; setVessel 0 0 2 = 7");
        RUNS.holds("5: arrival 401 is too large", VESSEL, "setVessel 0 401 2 = argument; setVessel 0 0 2 = 7");
        RUNS.holds("5: arrival, the ends of int", VESSEL,
                "setVessel 0 MIN 2 = argument; setVessel 0 MAX 2 = argument; setVessel 0 0 2 = 7");
        RUNS.holds("5: cranes 1 is the least", VESSEL, "setVessel 0 7 1 = 7; ranges 0 = 1");
        RUNS.holds("5: cranes 4 is the most", "addVessel 7 4 4 1", "setVessel 0 7 4 = 7; ranges 0 = 4");
        RUNS.holds("5: cranes 0 is too small", VESSEL, "setVessel 0 9 0 = argument; ranges 0 = 2; setVessel 0 0 2 = 7");
        RUNS.holds("5: cranes 5 is too large", VESSEL, "setVessel 0 9 5 = argument; ranges 0 = 2; setVessel 0 0 2 = 7");
        RUNS.holds("5: cranes, the ends of int", VESSEL,
                "setVessel 0 9 MIN = argument; setVessel 0 9 MAX = argument; setVessel 0 0 2 = 7");
        RUNS.holds("5: no such vessel first, then arrival", VESSEL,
                "setVessel 1 401 2 = index; setVessel -1 -1 2 = index");
        RUNS.holds("5: no such vessel first, then cranes", VESSEL, "setVessel 1 0 5 = index; setVessel -1 0 0 = index");
    }

    private static void addContainerWhereNothingIs() {
        RUNS.holds("6: no vessel yet", "addContainer 0 0 import 1 0 = index; containers = 0");
        RUNS.holds("6: the first and the last vessel", TWO_VESSELS,
                "addContainer 0 0 import 1 0 = 0; addContainer 1 0 import 1 0 = 1; work 0 0 = 2; work 1 0 = 2");
        refusedContainer("vessel -1 is none", "-1 0 import 1 0 = index");
        refusedContainer("one more than the last vessel is none", "2 0 import 1 0 = index");
        refusedContainer("vessel, the least int", "MIN 0 import 1 0 = index");
        refusedContainer("vessel, the greatest int", "MAX 0 import 1 0 = index");
        RUNS.holds("6: the first and the last bay", TWO_VESSELS,
                "addContainer 0 2 import 1 0 = 0; addContainer 1 9 import 1 0 = 1; work 0 2 = 2; work 1 9 = 2");
        refusedContainer("bay -1 is none", "0 -1 import 1 0 = index");
        refusedContainer("bay 3 of three is none", "0 3 import 1 0 = index");
        refusedContainer("bay 3 of three is none, though another vessel has it", "0 9 export 1 0 = index");
        refusedContainer("bay 10 of ten is none", "1 10 import 1 0 = index");
        refusedContainer("bay, the least int", "0 MIN import 1 0 = index");
        refusedContainer("bay, the greatest int", "0 MAX import 1 0 = index");
        refusedContainer("no such vessel first, then weight", "2 0 import 0 0 = index");
        refusedContainer("no such vessel first, then wish", "2 0 import 1 16 = index");
        refusedContainer("no such bay first, then weight", "0 3 import 41 0 = index");
        refusedContainer("no such bay first, then wish", "0 3 import 1 -1 = index");
    }

    private static void addContainerTooSmallOrLarge() {
        // Only one that is not lighter by more than 8 goes on top: it is the weight that is told.
        String stack = "addVessel 0 1 1 1; addStack 2; ";
        RUNS.holds("6: weight 1 is the least", stack + "addContainer 0 0 import 1 3; addContainer 0 0 import 9 3",
                "plan; giveSlots; work 2; heightOf 0 = 2");
        RUNS.holds("6: weight 40 is the most", stack + "addContainer 0 0 import 32 3; addContainer 0 0 import 40 3",
                "plan; giveSlots; work 2; heightOf 0 = 2");
        refusedContainer("weight 0 is too small", "0 0 import 0 0 = argument");
        refusedContainer("weight 41 is too large", "0 0 import 41 0 = argument");
        refusedContainer("weight, the least int", "0 0 import MIN 0 = argument");
        refusedContainer("weight, the greatest int", "0 0 import MAX 0 = argument");
        RUNS.holds("6: wish 0 is the least", VESSEL, "addContainer 0 0 import 1 0 = 0; setWish 0 5 = 0");
        RUNS.holds("6: wish 15 is the most", VESSEL, "addContainer 0 0 import 1 15 = 0; setWish 0 5 = 15");
        refusedContainer("wish -1 is too small", "0 0 import 1 -1 = argument");
        refusedContainer("wish 16 is too large", "0 0 export 1 16 = argument");
        refusedContainer("wish, the least int", "0 0 import 1 MIN = argument");
        refusedContainer("wish, the greatest int", "0 0 export 1 MAX = argument");
    }

    private static void refusedContainer(String sentence, String call) {
        RUNS.holds("6: " + sentence, TWO_VESSELS, "addContainer " + call,
                "containers = 0; work 0 0 = 0; work 0 2 = 0; addContainer 0 0 import 1 0 = 0");
    }

    private static void addContainerFull() {
        String most = VESSEL + "; 24 x addContainer 0 1 import 10 3";
        RUNS.holds("6: the 24th is the last", VESSEL,
                "23 x addContainer 0 1 import 10 3; addContainer 0 1 export 1 0 = 23",
                "containers = 24; work 0 1 = 48");
        RUNS.holds("6: there are 24", most, "addContainer 0 1 import 10 3 = state; containers = 24; work 0 1 = 48");
        RUNS.holds("6: there are 24, again", most,
                "3 x addContainer 0 0 export 1 0 = state; containers = 24; work 0 0 = 0");
        RUNS.holds("6: weight first, then 24", most,
                "addContainer 0 1 import 0 3 = argument; addContainer 0 1 import 41 3 = argument");
        RUNS.holds("6: wish first, then 24", most,
                "addContainer 0 1 import 1 -1 = argument; addContainer 0 1 import 1 16 = argument");
        RUNS.holds("6: no such vessel first, then 24", most, "addContainer 1 1 import 10 3 = index");
        RUNS.holds("6: no such bay first, then 24", most, "addContainer 0 3 import 10 3 = index");
        RUNS.holds("6: no such bay first, then weight, then 24", most, "addContainer 0 3 import 41 16 = index");
        RUNS.holds("6: a refused one leaves the 24th place free", VESSEL,
                "23 x addContainer 0 1 import 10 3; addContainer 0 1 import 0 3 = argument",
                "addContainer 0 3 import 1 3 = index",
                "addContainer 0 1 import 10 3 = 23; addContainer 0 1 import 10 3 = state");
    }

    private static void setWish() {
        String two = CONTAINER + "; addContainer 0 1 export 10 4 = 1";
        RUNS.holds("7: no container yet", "setWish 0 0 = index");
        RUNS.holds("7: no container yet, but a vessel", VESSEL, "setWish 0 0 = index");
        RUNS.holds("7: the first and the last container", two,
                "setWish 0 8 = 3; setWish 1 9 = 4; setWish 0 3 = 8; setWish 1 4 = 9");
        RUNS.holds("7: container -1 is none", two, "setWish -1 0 = index");
        RUNS.holds("7: one more than the last is none", two, "setWish 2 0 = index");
        RUNS.holds("7: the ends of int are none", two, "setWish MIN 0 = index; setWish MAX 0 = index");
        RUNS.holds("7: the 24th is, the 25th is none", VESSEL,
                "24 x addContainer 0 0 import 1 7; setWish 23 0 = 7; setWish 24 0 = index");
        RUNS.holds("7: wish 0 is the least", CONTAINER, "setWish 0 0 = 3; setWish 0 3 = 0");
        RUNS.holds("7: wish 15 is the most", CONTAINER, "setWish 0 15 = 3; setWish 0 3 = 15");
        RUNS.holds("7: wish -1 is too small", CONTAINER, "setWish 0 -1 = argument; setWish 0 0 = 3");
        RUNS.holds("7: wish 16 is too large", CONTAINER, "setWish 0 16 = argument; setWish 0 0 = 3");
        RUNS.holds("7: wish, the ends of int", CONTAINER,
                "setWish 0 MIN = argument; setWish 0 MAX = argument; setWish 0 0 = 3");
        RUNS.holds("7: no such container first, then wish", CONTAINER, "setWish 1 16 = index; setWish -1 -1 = index");
    }

    private static void setRoom() {
        RUNS.holds("8: slot 0 is the first", "setRoom 0 5 = 2; setRoom 0 2 = 5; setRoom 1 2 = 2");
        RUNS.holds("8: slot 15 is the last", "setRoom 15 5 = 2; setRoom 15 2 = 5; setRoom 14 2 = 2");
        RUNS.holds("8: slot -1 is none", "setRoom -1 5 = index");
        RUNS.holds("8: slot 16 is none", "setRoom 16 5 = index");
        RUNS.holds("8: the ends of int are none", "setRoom MIN 5 = index; setRoom MAX 5 = index");
        RUNS.holds("8: room 0 is the least", "setRoom 3 0 = 2; setRoom 3 2 = 0");
        RUNS.holds("8: room 6 is the most", "setRoom 3 6 = 2; setRoom 3 2 = 6");
        RUNS.holds("8: room -1 is too small", "setRoom 3 -1 = argument; setRoom 3 0 = 2");
        RUNS.holds("8: room 7 is too large", "setRoom 3 7 = argument; setRoom 3 0 = 2");
        RUNS.holds("8: room, the ends of int", "setRoom 3 MIN = argument; setRoom 3 MAX = argument; setRoom 3 0 = 2");
        RUNS.holds("8: no such slot first, then room", "setRoom 16 7 = index; setRoom -1 -1 = index");
    }

    private static void addStack() {
        String six = VESSEL + "; 6 x addContainer 0 1 import 10 9; setRoom 9 6; ";
        RUNS.holds("9: height 1 is the least", six, "addStack 1 = 0; plan; giveSlots; work 6; heightOf 0 = 1");
        RUNS.holds("9: height 5 is the most", six, "addStack 5 = 0; plan; giveSlots; work 6; heightOf 0 = 5");
        RUNS.holds("9: height 0 is too small", "addStack 0 = argument; stacks = 0; addStack 1 = 0");
        RUNS.holds("9: height 6 is too large", "addStack 6 = argument; stacks = 0; addStack 1 = 0");
        RUNS.holds("9: height, the ends of int", "addStack MIN = argument; addStack MAX = argument; stacks = 0");
        RUNS.holds("9: the twelfth is the last", "11 x addStack 1; addStack 5 = 11; stacks = 12");
        RUNS.holds("9: there are 12", "12 x addStack 1; addStack 1 = state; stacks = 12; heightOf 12 = index");
        RUNS.holds("9: there are 12, again", "12 x addStack 5; 3 x addStack 5 = state; stacks = 12");
        RUNS.holds("9: height first, then 12", "12 x addStack 1; addStack 0 = argument; addStack 6 = argument");
        RUNS.holds("9: a refused one leaves the twelfth place free",
                "11 x addStack 1; addStack 6 = argument; addStack 1 = 11; addStack 1 = state");
    }

    private static void counts() {
        RUNS.holds("10: none, one and the most",
                "vessels = 0; addVessel 0 1 1 1; vessels = 1; 5 x addVessel 0 1 1 1; vessels = 6");
        RUNS.holds("11: none, one and the most", VESSEL,
                "containers = 0; addContainer 0 0 export 1 0; containers = 1; 23 x addContainer 0 0 import 1 0",
                "containers = 24");
        RUNS.holds("12: none, one and the most", "stacks = 0; addStack 1; stacks = 1; 11 x addStack 1; stacks = 12");
        RUNS.holds("10 to 12: setting adds none", CONTAINER, "addStack 1; setVessel 0 1 1; setWish 0 1; setRoom 1 1",
                "setQuay 9; setCranes 2; plan; giveSlots; work 9; vessels = 1; containers = 1; stacks = 1");
    }

    private static void lastCalls() {
        RUNS.holds("What it is: 512 calls, setting", "510 x setQuay 9; setQuay 8 = 9; setQuay 7 = 8");
        RUNS.holds("What it is: 512 calls, adding", "504 x setCranes 6; 6 x addVessel 0 1 1 1",
                "addVessel 0 1 1 1 = state; vessels = 6");
        RUNS.holds("What it is: 512 calls, planning", CONTAINER,
                "506 x plan = 0; giveSlots = 0; work MAX = 2; stateOf 0 = 3",
                "isPlanned = true");
        RUNS.holds("What it is: 512 calls, refused", "511 x setQuay 3 = argument; setQuay 60 = 20");
    }
}
