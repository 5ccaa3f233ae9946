/** The edges of promises 30 to 34 and of section 4, a sentence each: which slots the trucks get. */
public final class EdgesOfSlotsTest {
    private static final Check CHECK = new Check("EdgesOfSlotsTest");
    private static final Runs RUNS = new Runs(CHECK);
    private static final String VESSEL = "addVessel 0 1 1 1; ";
    private static final String TWO_PLANNED =
            VESSEL + "addContainer 0 0 import 1 3; addContainer 0 0 import 1 4; plan = 0; ";
    private static final String TWO_GIVEN = TWO_PLANNED + "giveSlots = 0; ";

    public static void main(String[] args) {
        movedAt();
        timesOfMoves();
        giveSlots();
        slotOf();
        inSlot();
        costIfArguments();
        costIfChangesNothing();
        slotsOfImports();
        slotsOfExports();
        costs();
        rooms();
        alikeInCost();
        CHECK.end();
    }

    private static void movedAt() {
        String two = VESSEL + "addContainer 0 0 import 1 3; addContainer 0 0 import 1 4; ";
        RUNS.holds("30: no plan", two + "movedAt 0 = state; movedAt 1 = state");
        RUNS.holds("30: no plan first, then no such container",
                two + "movedAt 2 = state; movedAt -1 = state; movedAt MAX = state");
        RUNS.holds("30: no plan and no container", "movedAt 0 = state");
        RUNS.holds("30: a plan, but no container", VESSEL + "plan; movedAt 0 = index");
        RUNS.holds("30: the first and the last container", TWO_PLANNED + "movedAt 0 = 2; movedAt 1 = 4");
        RUNS.holds("30: container -1 is none", TWO_PLANNED + "movedAt -1 = index");
        RUNS.holds("30: one more than the last is none", TWO_PLANNED + "movedAt 2 = index");
        RUNS.holds("30: the ends of int are none", TWO_PLANNED + "movedAt MIN = index; movedAt MAX = index");
        RUNS.holds("30: a plan that is gone", TWO_PLANNED + "setCranes 3; movedAt 0 = state; movedAt 2 = state");
        RUNS.holds("30: without slots, and with slots",
                TWO_PLANNED + "movedAt 0 = 2; giveSlots; movedAt 0 = 2; work 9; movedAt 0 = 2");
    }

    private static void timesOfMoves() {
        RUNS.holds("30: the first one, 2 ticks behind BEGIN",
                VESSEL + "addContainer 0 0 import 1 0; plan; movedAt 0 = 2");
        RUNS.holds("30: the 24th one, 48 ticks behind BEGIN",
                VESSEL + "24 x addContainer 0 0 export 1 0; plan; movedAt 0 = 2; movedAt 22 = 46; movedAt 23 = 48",
                "handling 0 = 48");
        RUNS.holds("30: imports ahead of exports, though of greater numbers",
                VESSEL + "addContainer 0 0 export 1 0; addContainer 0 0 import 1 0; plan; movedAt 0 = 4",
                "movedAt 1 = 2");
        RUNS.holds("30: by numbers among imports, and among exports",
                VESSEL + "addContainer 0 0 export 1 0; addContainer 0 0 import 1 0; addContainer 0 0 export 1 0",
                "addContainer 0 0 import 1 0", "plan; movedAt 1 = 2; movedAt 3 = 4; movedAt 0 = 6; movedAt 2 = 8");
        RUNS.holds("30: those of other bays and other vessels do not count",
                "addVessel 0 2 1 1; addVessel 0 2 1 1; addContainer 0 0 import 1 0; addContainer 1 1 import 1 0",
                "addContainer 0 1 import 1 0",
                "plan = 0; beginOf 0 1 = 3; movedAt 0 = 2; movedAt 1 = 4; movedAt 2 = 5");
        RUNS.holds("30: behind START, not behind the arrival",
                "setCranes 1; addVessel 0 1 9 1; addVessel 0 1 1 1; addContainer 1 0 import 1 0; plan = 1",
                "startOf 1 = 1; movedAt 0 = 3");
        RUNS.holds("30: at the greatest arrival",
                "addVessel 400 1 1 1; addContainer 0 0 import 1 0; plan; movedAt 0 = 402");
    }

    private static void giveSlots() {
        RUNS.holds("31: no plan", "giveSlots = state; addVessel 0 1 1 1; giveSlots = state; inSlot 0 = state");
        RUNS.holds("31: no plan, as one cannot be planned",
                "addVessel 0 1 1 4; plan = -1; giveSlots = state; events = 0");
        RUNS.holds("31: a plan that is gone", TWO_PLANNED + "setQuay 20; giveSlots = state");
        RUNS.holds("31: no container",
                VESSEL + "plan; giveSlots = 0; inSlot 0 = 0; inSlot 15 = 0; events = 0; work MAX = 0");
        RUNS.holds("31: one container", VESSEL + "addContainer 0 0 import 1 1; plan; giveSlots = 0; slotOf 0 = 1");
        RUNS.holds("31: given again", TWO_GIVEN + "giveSlots = 0; slotOf 0 = 3; slotOf 1 = 4");
        RUNS.holds("31: all 24 get none",
                "addVessel 400 1 1 1; 24 x addContainer 0 0 import 1 0; plan; giveSlots = 960; slotOf 23 = -1");
        RUNS.holds("31: the most that 24 slots can cost",
                "addVessel 300 1 1 1; setRoom 0 6; setRoom 1 6; setRoom 2 6; setRoom 3 6",
                "24 x addContainer 0 0 export 1 15",
                "setRoom 15 0; setRoom 14 0; setRoom 13 0; setRoom 12 0; setRoom 11 0; setRoom 10 0; setRoom 9 0",
                "setRoom 8 0",
                "setRoom 7 0; setRoom 6 0; setRoom 5 0; setRoom 4 0; plan; giveSlots = 324; inSlot 0 = 6",
                "inSlot 3 = 6");
        RUNS.holds("31: 15 places for 24",
                VESSEL + "24 x addContainer 0 0 import 1 0; setRoom 1 1; setRoom 2 1; setRoom 3 1",
                "setRoom 4 1; setRoom 5 1; setRoom 6 1; setRoom 7 1; setRoom 8 1; setRoom 9 1; setRoom 10 1",
                "setRoom 11 1",
                "setRoom 12 1; setRoom 13 1; setRoom 14 1; setRoom 15 1; plan; giveSlots = 480; slotOf 0 = 1",
                "slotOf 1 = 2",
                "slotOf 13 = 14; slotOf 14 = 15; slotOf 15 = -1; slotOf 23 = -1; inSlot 0 = 0; inSlot 15 = 1");
    }

    private static void slotOf() {
        RUNS.holds("32: no slots", TWO_PLANNED + "slotOf 0 = state; slotOf 1 = state");
        RUNS.holds("32: no slots first, then no such container",
                TWO_PLANNED + "slotOf 2 = state; slotOf -1 = state; slotOf MIN = state; slotOf MAX = state");
        RUNS.holds("32: no slots, no plan, nothing", "slotOf 0 = state; slotOf -1 = state");
        RUNS.holds("32: slots, but no container", VESSEL + "plan; giveSlots; slotOf 0 = index");
        RUNS.holds("32: the first and the last container", TWO_GIVEN + "slotOf 0 = 3; slotOf 1 = 4");
        RUNS.holds("32: container -1 is none", TWO_GIVEN + "slotOf -1 = index");
        RUNS.holds("32: one more than the last is none", TWO_GIVEN + "slotOf 2 = index");
        RUNS.holds("32: the ends of int are none", TWO_GIVEN + "slotOf MIN = index; slotOf MAX = index");
        RUNS.holds("32: slots that are gone", TWO_GIVEN + "setWish 0 3; slotOf 0 = state; slotOf 2 = state");
        RUNS.holds("32: only asked for", TWO_PLANNED + "costIf 3 2 = 0; slotOf 0 = state");
        RUNS.holds("32: none",
                TWO_PLANNED + "setRoom 3 0; setRoom 2 0; setRoom 1 0; setRoom 4 1; setRoom 5 0; setRoom 6 0",
                "setRoom 7 0; setRoom 8 0; setRoom 9 0; setRoom 10 0; setRoom 11 0; setRoom 12 0; setRoom 13 0",
                "setRoom 14 0; setRoom 15 0; giveSlots = 40; slotOf 0 = -1; slotOf 1 = 4");
    }

    private static void inSlot() {
        RUNS.holds("33: no slots", TWO_PLANNED + "inSlot 0 = state; inSlot 15 = state");
        RUNS.holds("33: no slots first, then no such slot",
                TWO_PLANNED + "inSlot -1 = state; inSlot 16 = state; inSlot MAX = state");
        RUNS.holds("33: slot 0 is the first",
                "addVessel 400 1 1 1; 2 x addContainer 0 0 export 1 0; plan; giveSlots = 0; inSlot 0 = 2",
                "inSlot 1 = 0");
        RUNS.holds("33: slot 15 is the last",
                VESSEL + "2 x addContainer 0 0 import 1 15; plan; giveSlots = 0; inSlot 15 = 2; inSlot 14 = 0");
        RUNS.holds("33: slot -1 is none, though some got none",
                "addVessel 400 1 1 1; addContainer 0 0 import 1 0; plan; giveSlots = 40; inSlot -1 = index");
        RUNS.holds("33: slot 16 is none, though some got none",
                "addVessel 400 1 1 1; addContainer 0 0 import 1 0; plan; giveSlots = 40; inSlot 16 = index");
        RUNS.holds("33: the ends of int are none", TWO_GIVEN + "inSlot MIN = index; inSlot MAX = index");
        RUNS.holds("33: none, one and two",
                VESSEL + "3 x addContainer 0 0 import 1 5; plan; giveSlots = 1; inSlot 3 = 0; inSlot 4 = 1",
                "inSlot 5 = 2");
        RUNS.holds("33: as many as it has room for",
                VESSEL + "setRoom 5 6; 6 x addContainer 0 0 import 1 5; plan; giveSlots = 0; inSlot 5 = 6");
    }

    private static void costIfArguments() {
        RUNS.holds("34: no plan", VESSEL + "costIf 0 0 = state");
        RUNS.holds("34: no plan first, then no such slot",
                VESSEL + "costIf -1 0 = state; costIf 16 0 = state; costIf MAX MAX = state");
        RUNS.holds("34: no plan first, then room",
                VESSEL + "costIf 0 -1 = state; costIf 0 7 = state; costIf 16 7 = state");
        RUNS.holds("34: slot 0 is the first",
                "addVessel 400 1 1 1; addContainer 0 0 export 1 0; plan; costIf 0 0 = 1; costIf 0 1 = 0");
        RUNS.holds("34: slot 15 is the last",
                VESSEL + "addContainer 0 0 import 1 15; plan; costIf 15 0 = 1; costIf 15 1 = 0");
        RUNS.holds("34: slot -1 is none", TWO_PLANNED + "costIf -1 2 = index");
        RUNS.holds("34: slot 16 is none", TWO_PLANNED + "costIf 16 2 = index");
        RUNS.holds("34: the ends of int are none", TWO_PLANNED + "costIf MIN 2 = index; costIf MAX 2 = index");
        RUNS.holds("34: room 0 is the least", TWO_PLANNED + "costIf 3 0 = 1");
        RUNS.holds("34: room 6 is the most",
                VESSEL + "6 x addContainer 0 0 import 1 5; plan; costIf 5 2 = 4; costIf 5 5 = 1; costIf 5 6 = 0",
                "giveSlots = 4");
        RUNS.holds("34: room -1 is too small", TWO_PLANNED + "costIf 3 -1 = argument");
        RUNS.holds("34: room 7 is too large", TWO_PLANNED + "costIf 3 7 = argument");
        RUNS.holds("34: room, the ends of int", TWO_PLANNED + "costIf 3 MIN = argument; costIf 3 MAX = argument");
        RUNS.holds("34: no such slot first, then room",
                TWO_PLANNED + "costIf 16 7 = index; costIf -1 -1 = index; costIf 16 -1 = index");
        RUNS.holds("34: no container", VESSEL + "plan; costIf 0 0 = 0; costIf 15 6 = 0");
    }

    private static void costIfChangesNothing() {
        RUNS.holds("34: its room stays", TWO_PLANNED + "costIf 3 0 = 1; setRoom 3 2 = 2; giveSlots = 0; slotOf 0 = 3");
        RUNS.holds("34: still no slots", TWO_PLANNED + "costIf 3 0 = 1; inSlot 3 = state; events = 0; work 1 = state");
        RUNS.holds("34: the slots stay",
                TWO_GIVEN + "costIf 3 0 = 1; slotOf 0 = 3; slotOf 1 = 4; inSlot 3 = 1; inSlot 2 = 0; events = 4");
        RUNS.holds("34: the yard stays",
                "addStack 2; " + TWO_GIVEN + "work 2 = 2; costIf 3 0 = 1; stateOf 0 = 1; heightOf 0 = 2; work 0 = 2");
        RUNS.holds("34: room for as many as it has", TWO_GIVEN + "costIf 3 2 = 0; costIf 9 2 = 0");
        RUNS.holds("34: each time from what there is",
                TWO_PLANNED + "costIf 3 0 = 1; costIf 4 0 = 1; costIf 3 0 = 1; giveSlots = 0");
    }

    private static void slotsOfImports() {
        imports("a slot that begins as it is moved", 18, 1);
        imports("a slot that begins a tick ahead of that", 19, 2);
        imports("never slot 0", 0, 1);
        imports("the last slot, which begins as it is moved", 298, 15);
        imports("a tick behind the begin of the last slot", 299, -1);
        imports("at the greatest arrival", 400, -1);
    }

    /** One that wishes slot 0, so that it gets the earliest one that it can have. */
    private static void imports(String sentence, int arrival, int due) {
        RUNS.holds("32: an import, " + sentence,
                "addVessel " + arrival + " 1 1 1; addContainer 0 0 import 1 0; plan = 0",
                "movedAt 0 = " + (arrival + 2) + "; giveSlots = " + (due < 0 ? 40 : due) + "; slotOf 0 = " + due);
    }

    private static void slotsOfExports() {
        exports("a slot that ends 2 ticks ahead of its move", 20, 0);
        exports("a slot that ends 1 tick ahead of its move", 19, -1);
        exports("the next slot, 2 ticks ahead", 40, 1);
        exports("the next slot, 1 tick ahead", 39, 0);
        exports("the last slot, 2 ticks ahead", 320, 15);
        exports("the last slot, 1 tick ahead", 319, 14);
        exports("at the least arrival", 0, -1);
        exports("at the greatest arrival", 400, 15);
    }

    /** One that wishes slot 15, so that it gets the latest one that it can have. */
    private static void exports(String sentence, int arrival, int due) {
        RUNS.holds("32: an export, " + sentence,
                "addVessel " + arrival + " 1 1 1; addContainer 0 0 export 1 15; plan = 0",
                "movedAt 0 = " + (arrival + 2) + "; giveSlots = " + (due < 0 ? 40 : 15 - due) + "; slotOf 0 = " + due);
    }

    private static void costs() {
        RUNS.holds("31: its WISH costs nothing", VESSEL + "addContainer 0 0 import 1 1; plan; giveSlots = 0");
        RUNS.holds("31: a slot later", VESSEL + "addContainer 0 0 import 1 0; plan; giveSlots = 1; slotOf 0 = 1");
        RUNS.holds("31: a slot earlier",
                "addVessel 20 1 1 1; addContainer 0 0 export 1 1; plan; giveSlots = 1; slotOf 0 = 0");
        RUNS.holds("31: 15 slots later rather than none",
                "addVessel 298 1 1 1; addContainer 0 0 import 1 0; plan; giveSlots = 15; slotOf 0 = 15");
        RUNS.holds("31: 15 slots earlier rather than none",
                "addVessel 20 1 1 1; addContainer 0 0 export 1 15; plan; giveSlots = 15; slotOf 0 = 0");
        RUNS.holds("31: 40 without one",
                "addVessel 299 1 1 1; addContainer 0 0 import 1 15; plan; giveSlots = 40; slotOf 0 = -1");
        RUNS.holds("31: a dear one for one rather than none for another one",
                "addVessel 258 1 1 1; addContainer 0 0 import 1 0; addContainer 0 0 import 1 15; setRoom 13 0",
                "setRoom 14 0; setRoom 15 1",
                "plan; giveSlots = 40; slotOf 0 = -1; slotOf 1 = 15; setRoom 14 1; giveSlots = 14; slotOf 0 = 14",
                "slotOf 1 = 15");
    }

    private static void rooms() {
        RUNS.holds("31: room for 2, at first",
                VESSEL + "3 x addContainer 0 0 import 1 5; plan; giveSlots = 1; inSlot 5 = 2");
        RUNS.holds("31: room for none", TWO_PLANNED + "setRoom 3 0; giveSlots = 1; inSlot 3 = 0; slotOf 0 = 2");
        RUNS.holds("31: room for one, wanted by two",
                VESSEL + "2 x addContainer 0 0 import 1 5; setRoom 5 1; plan; giveSlots = 1; inSlot 5 = 1");
        RUNS.holds("31: room for 6, wanted by 6",
                VESSEL + "6 x addContainer 0 0 import 1 5; setRoom 5 6; plan; giveSlots = 0; inSlot 5 = 6");
        RUNS.holds("31: room for 6, wanted by 7",
                VESSEL + "7 x addContainer 0 0 import 1 5; setRoom 5 6; plan; giveSlots = 1; inSlot 5 = 6",
                "inSlot 4 = 1");
        RUNS.holds("31: imports and exports share the room",
                "addVessel 0 1 1 1; addVessel 400 1 1 1; addContainer 0 0 import 1 5; addContainer 1 0 export 1 5",
                "setRoom 5 1",
                "plan = 0; giveSlots = 1; slotOf 0 = 4; slotOf 1 = 5; inSlot 5 = 1");
    }

    private static void alikeInCost() {
        RUNS.holds("32: as early as can be",
                VESSEL + "addContainer 0 0 import 1 5; setRoom 5 0; plan; giveSlots = 1; slotOf 0 = 4");
        RUNS.holds("32: no earlier than costs least",
                VESSEL + "addContainer 0 0 import 1 5; plan; giveSlots = 0; slotOf 0 = 5");
        RUNS.holds("32: container 0 as early as can be, though it could have its WISH",
                VESSEL + "2 x addContainer 0 0 import 1 5; setRoom 5 1; plan; giveSlots = 1; slotOf 0 = 4",
                "slotOf 1 = 5");
        RUNS.holds("32: then container 1",
                VESSEL + "3 x addContainer 0 0 import 1 5; setRoom 5 1; setRoom 4 1; plan; giveSlots = 2",
                "slotOf 0 = 4; slotOf 1 = 5; slotOf 2 = 6");
        RUNS.holds("32: container 1 as early as can be, container 0 at its only one",
                "addVessel 60 1 1 1; addVessel 0 1 1 1; addContainer 0 0 import 1 4; addContainer 1 0 import 1 5",
                "setRoom 5 0",
                "plan = 0; giveSlots = 1; slotOf 0 = 4; slotOf 1 = 4");
        String onlySlot3 = "setRoom 1 0; setRoom 2 0; setRoom 3 1; setRoom 4 0; setRoom 5 0; setRoom 6 0; "
                + "setRoom 7 0; setRoom 8 0; setRoom 9 0; setRoom 10 0; setRoom 11 0; setRoom 12 0; setRoom 13 0; "
                + "setRoom 14 0; setRoom 15 0; ";
        RUNS.holds("32: none is later than all", VESSEL + "2 x addContainer 0 0 import 1 3; " + onlySlot3 + "plan",
                "giveSlots = 40; slotOf 0 = 3; slotOf 1 = -1");
        RUNS.holds("32: then container 2, while those ahead of it stay",
                "addVessel 40 1 1 1; addContainer 0 0 import 1 9",
                "addContainer 0 0 import 1 9; addContainer 0 0 import 1 8; setRoom 7 0; setRoom 8 0; plan",
                "giveSlots = 2",
                "slotOf 0 = 9; slotOf 1 = 9; slotOf 2 = 6");
        RUNS.holds("32: and so on: container 3",
                "addVessel 120 1 1 1; addVessel 100 1 1 1; addContainer 0 0 import 1 4",
                "addContainer 0 0 import 1 7; addContainer 1 0 import 1 5; addContainer 1 0 import 1 7; setRoom 1 1",
                "setRoom 5 0; setRoom 9 1; plan; giveSlots = 5; slotOf 0 = 7; slotOf 1 = 7; slotOf 2 = 6",
                "slotOf 3 = 6");
        RUNS.holds("32: and so on, with an export among them",
                "addVessel 240 1 1 1; addVessel 100 1 1 1; addVessel 160 1 1 1",
                "addContainer 2 0 import 1 9; addContainer 2 0 import 1 8; addContainer 0 0 export 1 9",
                "addContainer 1 0 import 1 9",
                "plan; giveSlots = 3; slotOf 0 = 9; slotOf 1 = 9; slotOf 2 = 8; slotOf 3 = 8");
        RUNS.holds("32: and so on, the last one as early as can be", VESSEL + "addContainer 0 0 import 1 8",
                "addContainer 0 0 export 1 6; addContainer 0 0 import 1 8; addContainer 0 0 import 1 7",
                "setRoom 6 0; setRoom 7 0",
                "plan; giveSlots = 42; slotOf 0 = 8; slotOf 1 = -1; slotOf 2 = 8; slotOf 3 = 5");
        RUNS.holds("32: and so on, an export ahead of an import", "addVessel 100 1 1 1; addVessel 280 1 1 1",
                "addContainer 0 0 import 1 5; addContainer 0 0 import 1 2; addContainer 1 0 export 1 6",
                "addContainer 0 0 import 1 7",
                "plan; giveSlots = 6; slotOf 0 = 6; slotOf 1 = 6; slotOf 2 = 5; slotOf 3 = 7");
        RUNS.holds("32: and so on, six of them",
                "addVessel 140 1 1 1; addVessel 260 1 1 1; addContainer 0 0 import 1 3",
                "addContainer 0 0 export 1 6; addContainer 1 0 export 1 9; addContainer 0 0 export 1 8",
                "addContainer 1 0 export 1 8",
                "addContainer 1 0 export 1 6; setRoom 5 1; setRoom 6 1; setRoom 7 1; setRoom 8 0; plan; giveSlots = 12",
                "slotOf 0 = 9; slotOf 1 = 4; slotOf 2 = 9; slotOf 3 = 5; slotOf 4 = 7; slotOf 5 = 6");
        RUNS.holds("32: and so on, nine of them",
                "addVessel 280 1 1 1; addVessel 120 1 1 1; addContainer 0 0 import 1 3",
                "addContainer 1 0 export 1 8; addContainer 0 0 export 1 9; addContainer 1 0 import 1 2",
                "addContainer 1 0 export 1 9",
                "addContainer 1 0 import 1 7; addContainer 1 0 export 1 6; addContainer 1 0 import 1 9",
                "addContainer 0 0 export 1 6",
                "setRoom 6 0; setRoom 9 0; setRoom 14 0; plan; giveSlots = 30; slotOf 0 = 15; slotOf 1 = 4",
                "slotOf 2 = 8",
                "slotOf 3 = 7; slotOf 4 = 4; slotOf 5 = 7; slotOf 6 = 5; slotOf 7 = 8; slotOf 8 = 5");
        RUNS.holds("32: an export gives way to an import down to slot 0",
                "addVessel 400 1 1 1; addVessel 0 1 1 1; addContainer 1 0 import 1 1; addContainer 0 0 export 1 1",
                "setRoom 1 1",
                "setRoom 2 0; setRoom 3 0; plan = 0; giveSlots = 1; slotOf 0 = 1; slotOf 1 = 0");
        RUNS.holds("32: none for another one, if that costs less",
                VESSEL + "addContainer 0 0 import 1 3; addContainer 0 0 import 1 4; ",
                onlySlot3 + "plan; giveSlots = 40; slotOf 0 = 3; slotOf 1 = -1");
        RUNS.holds("32: none for container 0, if that costs less",
                VESSEL + "addContainer 0 0 import 1 4; addContainer 0 0 import 1 3; ",
                onlySlot3 + "plan; giveSlots = 40; slotOf 0 = -1; slotOf 1 = 3");
        RUNS.holds("32: the slot for container 0, if that costs alike",
                VESSEL + "addContainer 0 0 import 1 4; addContainer 0 0 import 1 2; ",
                onlySlot3 + "plan; giveSlots = 41; slotOf 0 = 3; slotOf 1 = -1");
    }
}
