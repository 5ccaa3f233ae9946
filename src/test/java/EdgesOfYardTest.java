/** The edges of promises 35 to 48 and of sections 5 and 6, a sentence each: events, and what they do in the yard. */
public final class EdgesOfYardTest {
    private static final Check CHECK = new Check("EdgesOfYardTest");
    private static final Runs RUNS = new Runs(CHECK);
    private static final String GIVEN = "plan = 0; giveSlots = 0; ";
    /** Container 2 stands on 0; 1, which has filled stack 1, is gone behind 4 events; 0 is the next to leave. */
    private static final String ONE_ABOVE = yard(2, 1) + imports(10, 4, 40, 3, 18, 9) + GIVEN;
    /** Container 1 stands on 0, and there is no other stack. */
    private static final String SHUT_IN = yard(2) + imports(10, 3, 10, 9) + GIVEN;

    public static void main(String[] args) {
        events();
        noSuchEvent();
        whichEvents();
        orderOfEvents();
        workArguments();
        workAsManyAsThereAre();
        noSuchContainer();
        states();
        noSuchStackOrLevel();
        heights();
        weights();
        firsts();
        firstsByATick();
        leavingByTheLastEvent();
        leavingWithoutSlot();
        turnedAway();
        reshuffled();
        missed();
        blocking();
        wouldTake();
        tidyArguments();
        tidyAsLongAsItHelps();
        inTheEndArguments();
        inTheEnd();
        CHECK.end();
    }

    /** One vessel of one bay, whose imports are moved at 2, 4 and so on, and stacks of these heights. */
    private static String yard(int... heights) {
        StringBuilder text = new StringBuilder("addVessel 0 1 1 1; ");
        for (int height : heights) {
            text.append("addStack ").append(height).append("; ");
        }
        return text.toString();
    }

    /** Imports of these weights and wishes, as pairs. */
    private static String imports(int... weightsAndWishes) {
        StringBuilder text = new StringBuilder();
        for (int i = 0; i < weightsAndWishes.length; i += 2) {
            text.append("addContainer 0 0 import ").append(weightsAndWishes[i]).append(' ');
            text.append(weightsAndWishes[i + 1]).append("; ");
        }
        return text.toString();
    }

    private static void events() {
        RUNS.holds("35: 0 without slots", "events = 0; " + yard(1) + imports(1, 1), "events = 0; plan; events = 0");
        RUNS.holds("35: slots, but no container", yard(1) + GIVEN, "events = 0; work MAX = 0; timeOf 0 = index");
        RUNS.holds("35: an import with a slot has 2", yard(1) + imports(1, 1) + GIVEN, "events = 2");
        RUNS.holds("35: an import without a slot has 1", "addVessel 400 1 1 1; " + imports(1, 1),
                "plan; giveSlots = 40; events = 1");
        RUNS.holds("35: an export with a slot has 2", "addVessel 400 1 1 1; addContainer 0 0 export 1 1; " + GIVEN,
                "events = 2");
        RUNS.holds("35: an export without a slot has none",
                "addVessel 0 1 1 1; addContainer 0 0 export 1 1; plan; giveSlots = 40; events = 0");
        RUNS.holds("35: the most, 48",
                "addVessel 400 1 1 1; 24 x addContainer 0 0 export 1 8; plan; giveSlots; events = 48",
                "timeOf 47 = 446; kindOf 47 = 2; containerOf 47 = 23; timeOf 48 = index; kindOf 48 = index",
                "containerOf 48 = index");
        RUNS.holds("35: those worked off count, too", SHUT_IN,
                "events = 4; work 3 = 3; events = 4; work MAX = 4; events = 4; timeOf 3 = 180");
        RUNS.holds("35: slots that are gone", SHUT_IN, "events = 4; setRoom 0 2; events = 0; timeOf 0 = index");
    }

    private static void noSuchEvent() {
        String[] calls = {"timeOf", "kindOf", "containerOf"};
        int[] lasts = {180, 3, 1};
        for (int i = 0; i < calls.length; i++) {
            String call = calls[i];
            String name = "36 to 38: " + call;
            RUNS.holds(name + ", no slots", call + " 0 = index; " + yard(1) + imports(1, 1),
                    call + " 0 = index; plan; " + call + " 0 = index");
            RUNS.holds(name + ", the first one", SHUT_IN, call + " 0 = " + (i == 0 ? 2 : 0));
            RUNS.holds(name + ", the last one", SHUT_IN, call + " 3 = " + lasts[i]);
            RUNS.holds(name + ", -1 is none", SHUT_IN, call + " -1 = index");
            RUNS.holds(name + ", one more than the last is none", SHUT_IN, call + " 4 = index");
            RUNS.holds(name + ", the least int is none", SHUT_IN, call + " MIN = index");
            RUNS.holds(name + ", the greatest int is none", SHUT_IN, call + " MAX = index");
        }
    }

    private static void whichEvents() {
        RUNS.holds("36: an import, as it is moved and as its slot begins", yard(1) + imports(1, 5) + GIVEN,
                "timeOf 0 = 2; kindOf 0 = 0; containerOf 0 = 0; timeOf 1 = 100; kindOf 1 = 3; containerOf 1 = 0");
        RUNS.holds("36: an export, as its slot begins and 2 ticks ahead of its move",
                "addVessel 100 1 1 1; addContainer 0 0 export 1 3; " + GIVEN,
                "movedAt 0 = 102; timeOf 0 = 60; kindOf 0 = 1; containerOf 0 = 0; timeOf 1 = 100; kindOf 1 = 2",
                "containerOf 1 = 0");
        RUNS.holds("36: the first slot, at time 0", "addVessel 20 1 1 1; addContainer 0 0 export 1 0; " + GIVEN,
                "timeOf 0 = 0; kindOf 0 = 1; timeOf 1 = 20; kindOf 1 = 2");
        RUNS.holds("36: the last slot, at time 300", yard(1) + imports(1, 15) + GIVEN, "timeOf 1 = 300; kindOf 1 = 3");
        RUNS.holds("36: an import without a slot", "addVessel 400 1 1 1; " + imports(1, 1) + "plan; giveSlots = 40",
                "timeOf 0 = 402; kindOf 0 = 0; containerOf 0 = 0; timeOf 1 = index");
    }

    private static void orderOfEvents() {
        RUNS.holds("37: alike in time, 0 ahead of 3", "addStack 1; addVessel 18 1 1 1; " + imports(1, 1) + GIVEN,
                "timeOf 0 = 20; kindOf 0 = 0; timeOf 1 = 20; kindOf 1 = 3; work 1; stateOf 0 = 1; work 1",
                "stateOf 0 = 2");
        RUNS.holds("37: alike in time, 0 ahead of 1",
                "addVessel 400 1 1 1; addVessel 18 1 1 1; addContainer 0 0 export 1 1",
                "addContainer 1 0 import 1 9; " + GIVEN,
                "timeOf 0 = 20; kindOf 0 = 0; containerOf 0 = 1; timeOf 1 = 20; kindOf 1 = 1; containerOf 1 = 0");
        RUNS.holds("37: alike in time, 1 ahead of 2",
                "addVessel 20 1 1 1; addVessel 400 1 1 1; addContainer 0 0 export 1 0",
                "addContainer 1 0 export 1 1; " + GIVEN,
                "timeOf 1 = 20; kindOf 1 = 1; containerOf 1 = 1; timeOf 2 = 20; kindOf 2 = 2; containerOf 2 = 0");
        RUNS.holds("37: alike in time, 2 ahead of 3", "addVessel 0 1 1 1; addVessel 60 1 1 1; " + imports(1, 3),
                "addContainer 1 0 export 1 0; " + GIVEN,
                "timeOf 2 = 60; kindOf 2 = 2; containerOf 2 = 1; timeOf 3 = 60; kindOf 3 = 3; containerOf 3 = 0");
        RUNS.holds("38: alike in time and kind, by numbers", yard(1) + imports(1, 3, 1, 3) + GIVEN,
                "timeOf 2 = 60; containerOf 2 = 0; timeOf 3 = 60; containerOf 3 = 1");
        RUNS.holds("38: by numbers, not by vessels",
                "addVessel 0 1 1 1; addVessel 0 1 1 1; addContainer 1 0 import 1 3",
                "addContainer 0 0 import 1 3; " + GIVEN,
                "timeOf 0 = 2; containerOf 0 = 0; timeOf 1 = 2; containerOf 1 = 1");
        RUNS.holds("38: by times first", yard(1) + imports(1, 4, 1, 3) + GIVEN,
                "timeOf 2 = 60; containerOf 2 = 1; timeOf 3 = 80; containerOf 3 = 0");
    }

    private static void workArguments() {
        RUNS.holds("39: no slots", "work 0 = state; " + yard(1) + imports(1, 1),
                "work 1 = state; plan; work MAX = state");
        RUNS.holds("39: less than 0 first, then no slots", "work -1 = argument; work MIN = argument; work 0 = state");
        RUNS.holds("39: 0 is the least", SHUT_IN, "work 0 = 0; stateOf 0 = 0");
        RUNS.holds("39: -1 is less than 0", SHUT_IN,
                "work 1 = 1; work -1 = argument; work 0 = 1; stateOf 0 = 1; stateOf 1 = 0");
        RUNS.holds("39: the least int", SHUT_IN, "work MIN = argument; work 0 = 0");
        RUNS.holds("39: the greatest int", SHUT_IN, "work MAX = 4");
        RUNS.holds("39: the greatest int behind others", SHUT_IN, "work 3 = 3; work MAX = 4; work MAX = 4; work 0 = 4");
        RUNS.holds("39: slots that are gone", SHUT_IN, "work 1 = 1; setWish 0 3; work 1 = state; work -1 = argument");
    }

    private static void workAsManyAsThereAre() {
        RUNS.holds("39: one by one, in all", SHUT_IN, "work 1 = 1; work 1 = 2; work 1 = 3; work 1 = 4; work 1 = 4");
        RUNS.holds("39: just as many as there are", SHUT_IN, "work 4 = 4; work 0 = 4");
        RUNS.holds("39: one more than there are", SHUT_IN, "work 5 = 4");
        RUNS.holds("39: one fewer than there are", SHUT_IN, "work 3 = 3; work 2 = 4");
        RUNS.holds("39: none, as all are worked off", SHUT_IN,
                "work 4 = 4; reshuffles = 0; stateOf 0 = 4; work 9 = 4; stateOf 0 = 4");
        RUNS.holds("39: no events", yard(1) + GIVEN, "work 0 = 0; work 1 = 0; work MAX = 0");
        RUNS.holds("39: slots given anew", SHUT_IN,
                "work 3 = 3; giveSlots = 0; work 0 = 0; stateOf 0 = 0; work 1 = 1; stateOf 0 = 1");
        RUNS.holds("39: a stack added", SHUT_IN,
                "work 3 = 3; addStack 1 = 1; work 0 = 0; stateOf 0 = 0; work MAX = 4; stateOf 0 = 2");
    }

    private static void noSuchContainer() {
        String[] calls = {"stateOf", "stackOf", "wouldTake"};
        String[] atFirst = {"0", "-1", "-2"};
        for (int i = 0; i < calls.length; i++) {
            String call = calls[i];
            String name = "40, 41, 46: " + call;
            RUNS.holds(name + ", no container", call + " 0 = index; addVessel 0 1 1 1; " + call + " 0 = index");
            RUNS.holds(name + ", without plan and slots", yard(1) + imports(1, 1), call + " 0 = " + atFirst[i]);
            RUNS.holds(name + ", the first and the last one", SHUT_IN,
                    call + " 0 = " + atFirst[i] + "; " + call + " 1 = " + atFirst[i]);
            RUNS.holds(name + ", -1 is none", SHUT_IN, call + " -1 = index");
            RUNS.holds(name + ", one more than the last is none", SHUT_IN, call + " 2 = index");
            RUNS.holds(name + ", the ends of int are none", SHUT_IN, call + " MIN = index; " + call + " MAX = index");
            RUNS.holds(name + ", the 24th is, the 25th is none", yard(1) + "24 x addContainer 0 0 import 1 1",
                    call + " 23 = " + atFirst[i] + "; " + call + " 24 = index");
        }
    }

    private static void states() {
        RUNS.holds("40: 0, not yet come", SHUT_IN,
                "stateOf 0 = 0; stackOf 0 = -1; work 1; stateOf 1 = 0; stackOf 1 = -1");
        RUNS.holds("40: 1, in the yard", SHUT_IN, "work 1; stateOf 0 = 1; stackOf 0 = 0");
        RUNS.holds("40: 2, gone", yard(1) + imports(1, 1) + GIVEN,
                "work 2 = 2; stateOf 0 = 2; stackOf 0 = -1; heightOf 0 = 0");
        RUNS.holds("40: 3, turned away", yard() + imports(1, 1) + GIVEN, "work 1; stateOf 0 = 3; stackOf 0 = -1");
        RUNS.holds("40: 4, missed", SHUT_IN, "work 3 = 3; stateOf 0 = 4; stackOf 0 = 0");
        RUNS.holds("40: an export without a slot never comes",
                yard(1) + "addContainer 0 0 export 1 1; plan; giveSlots = 40; work MAX = 0; stateOf 0 = 0");
        RUNS.holds("40: an import without a slot never leaves",
                "addStack 1; addVessel 400 1 1 1; " + imports(1, 1) + "plan; giveSlots = 40",
                "work MAX = 1; stateOf 0 = 1; inTheEnd 3 = 1");
    }

    private static void noSuchStackOrLevel() {
        String two = yard(1, 5) + imports(10, 9, 10, 8) + GIVEN;
        RUNS.holds("42: no stack", "heightOf 0 = index; containerAt 0 0 = index");
        RUNS.holds("42: an empty stack, without slots", "addStack 5; heightOf 0 = 0; containerAt 0 0 = index");
        RUNS.holds("42: the first and the last stack", two + "work 2", "heightOf 0 = 1; heightOf 1 = 1");
        RUNS.holds("42: stack -1 is none", two, "heightOf -1 = index; containerAt -1 0 = index");
        RUNS.holds("42: one more than the last is none", two, "heightOf 2 = index; containerAt 2 0 = index");
        RUNS.holds("42: the ends of int are none", two,
                "heightOf MIN = index; heightOf MAX = index; containerAt MIN 0 = index; containerAt MAX 0 = index");
        RUNS.holds("42: the twelfth is, the thirteenth is none",
                "12 x addStack 5; heightOf 11 = 0; heightOf 12 = index; containerAt 12 0 = index");
        RUNS.holds("43: the lowest one is 0", SHUT_IN, "work 2; containerAt 0 0 = 0");
        RUNS.holds("43: the uppermost one", SHUT_IN, "work 2; containerAt 0 1 = 1");
        RUNS.holds("43: none above the uppermost one, though there is a place", two,
                "work 1; containerAt 0 0 = 0; containerAt 0 1 = index; containerAt 1 0 = index");
        RUNS.holds("43: none above a full stack", SHUT_IN, "work 2; containerAt 0 2 = index; containerAt 0 5 = index");
        RUNS.holds("43: level -1", SHUT_IN, "work 2; containerAt 0 -1 = index");
        RUNS.holds("43: the ends of int are no levels", SHUT_IN,
                "work 2; containerAt 0 MIN = index; containerAt 0 MAX = index");
        RUNS.holds("43: one that is gone stands there no more", yard(1) + imports(1, 1) + GIVEN,
                "work 1; containerAt 0 0 = 0; work 1; containerAt 0 0 = index");
        RUNS.holds("43: a yard that is empty again", SHUT_IN,
                "work 2; containerAt 0 1 = 1; giveSlots; containerAt 0 0 = index; heightOf 0 = 0");
    }

    private static void heights() {
        String three = imports(10, 9, 10, 9, 10, 8) + GIVEN;
        RUNS.holds("42: the last place of height 1", yard(1) + three, "work 1; heightOf 0 = 1; stateOf 0 = 1");
        RUNS.holds("42: one more than fits on height 1", yard(1) + three, "work 2; heightOf 0 = 1; stateOf 1 = 3");
        RUNS.holds("42: the last place of height 2", yard(2) + three, "work 2; heightOf 0 = 2; stateOf 1 = 1");
        RUNS.holds("42: one more than fits on height 2", yard(2) + three, "work 3; heightOf 0 = 2; stateOf 2 = 3");
        String six = imports(10, 9, 10, 9, 10, 8, 10, 8, 10, 7, 10, 7) + GIVEN;
        RUNS.holds("42: the last place of height 5", yard(5) + six,
                "work 5; heightOf 0 = 5; containerAt 0 4 = 4; containerAt 0 5 = index");
        RUNS.holds("42: one more than fits on height 5", yard(5) + six,
                "work 6; heightOf 0 = 5; stateOf 5 = 3; containerAt 0 5 = index");
        RUNS.holds("42: all 24 in the yard",
                "12 x addStack 5; addVessel 400 1 1 1; 24 x addContainer 0 0 import 7 1; plan; giveSlots = 960",
                "work MAX = 24; heightOf 0 = 5; heightOf 3 = 5; heightOf 4 = 4; heightOf 5 = 0",
                "containerAt 4 3 = 23; inTheEnd 3 = 24");
        RUNS.holds("42: twelve stacks of height 1 for 13",
                "12 x addStack 1; addVessel 400 1 1 1; 13 x addContainer 0 0 import 7 1; plan; giveSlots",
                "work MAX = 13; heightOf 11 = 1; stackOf 11 = 11; stateOf 12 = 3; inTheEnd 1 = 1; inTheEnd 3 = 12");
    }

    private static void weights() {
        RUNS.holds("40: on one that is lighter by 8", yard(2) + imports(10, 9, 18, 9) + GIVEN,
                "work 2; stateOf 1 = 1; containerAt 0 1 = 1");
        RUNS.holds("40: on one that is lighter by 9", yard(2) + imports(10, 9, 19, 9) + GIVEN,
                "work 2; stateOf 1 = 3; heightOf 0 = 1");
        RUNS.holds("40: on one that is as heavy", yard(2) + imports(10, 9, 10, 9) + GIVEN, "work 2; stateOf 1 = 1");
        RUNS.holds("40: the lightest on the heaviest", yard(2) + imports(40, 9, 1, 9) + GIVEN, "work 2; stateOf 1 = 1");
        RUNS.holds("40: the heaviest on the lightest", yard(2) + imports(1, 9, 40, 9) + GIVEN, "work 2; stateOf 1 = 3");
        RUNS.holds("40: the lightest bears 9", yard(2) + imports(1, 9, 9, 9) + GIVEN, "work 2; stateOf 1 = 1");
        RUNS.holds("40: the heaviest stands on 32", yard(2) + imports(32, 9, 40, 9) + GIVEN, "work 2; stateOf 1 = 1");
        RUNS.holds("40: the heaviest does not stand on 31", yard(2) + imports(31, 9, 40, 9) + GIVEN,
                "work 2; stateOf 1 = 3");
        RUNS.holds("40: the heaviest on an empty stack", yard(1) + imports(40, 9) + GIVEN, "work 1; stateOf 0 = 1");
        RUNS.holds("40: the uppermost one counts, 8", yard(3) + imports(30, 9, 5, 9, 13, 8) + GIVEN,
                "work 3; stateOf 2 = 1");
        RUNS.holds("40: the uppermost one counts, 9", yard(3) + imports(30, 9, 5, 9, 14, 8) + GIVEN,
                "work 3; stateOf 2 = 3");
    }

    private static void firsts() {
        RUNS.holds("41: FIRST alike to its LEAVING", yard(2, 2) + imports(10, 9, 10, 9) + GIVEN,
                "work 2; stackOf 1 = 0; blocking = 0");
        RUNS.holds("41: FIRST alike to its LEAVING, on the second stack",
                yard(2, 2, 2) + imports(10, 12, 30, 9, 10, 9) + GIVEN,
                "work 3; stackOf 0 = 0; stackOf 1 = 1; stackOf 2 = 1; blocking = 0");
        RUNS.holds("41: FIRST less than its LEAVING", yard(2, 2) + imports(10, 8, 10, 9) + GIVEN,
                "work 2; stackOf 1 = 1");
        RUNS.holds("41: FIRST more than its LEAVING", yard(2, 2) + imports(10, 9, 10, 8) + GIVEN,
                "work 2; stackOf 1 = 0");
        RUNS.holds("41: of those that are not less the smallest", yard(2, 2, 2) + imports(10, 9, 30, 8, 10, 7) + GIVEN,
                "work 3; stackOf 0 = 0; stackOf 1 = 1; stackOf 2 = 1");
        RUNS.holds("41: one that is not less, though smaller ones are less",
                yard(2, 2, 2) + imports(10, 5, 30, 9, 10, 7) + GIVEN,
                "work 3; stackOf 0 = 0; stackOf 1 = 1; stackOf 2 = 1");
        RUNS.holds("41: all less, the greatest of the second one", yard(2, 2) + imports(10, 5, 30, 6, 10, 9) + GIVEN,
                "work 3; stackOf 1 = 1; stackOf 2 = 1; blocking = 1");
        RUNS.holds("41: all less, the greatest of the first one", yard(2, 2) + imports(10, 6, 30, 5, 10, 9) + GIVEN,
                "work 3; stackOf 1 = 1; stackOf 2 = 0; blocking = 1");
        RUNS.holds("41: empty ones are alike", yard(1, 1) + imports(10, 9) + GIVEN, "work 1; stackOf 0 = 0");
        RUNS.holds("41: not less and alike", yard(2, 2) + imports(1, 5, 10, 5, 1, 4) + GIVEN,
                "work 3; stackOf 1 = 1; stackOf 2 = 0");
        RUNS.holds("41: less and alike", yard(2, 2) + imports(1, 5, 10, 5, 1, 9) + GIVEN,
                "work 3; stackOf 1 = 1; stackOf 2 = 0; blocking = 1");
        RUNS.holds("41: FIRST is the least, not that of the lowest one",
                yard(3, 3) + imports(20, 5, 20, 4, 20, 5) + GIVEN, "work 3; stackOf 1 = 0; stackOf 2 = 1");
        RUNS.holds("41: FIRST is the least, not that of the uppermost one",
                yard(3, 2) + imports(20, 4, 1, 9, 20, 5, 1, 5) + GIVEN,
                "work 4; containerAt 0 0 = 0; containerAt 0 1 = 2; containerAt 1 0 = 1; stackOf 3 = 1");
        RUNS.holds("41: a full stack does not count", yard(1, 2) + imports(10, 9, 10, 8) + GIVEN,
                "work 2; stackOf 1 = 1");
    }

    /** Exports leave 2 ticks ahead of their move, so by these a LEAVING may be a tick off. */
    private static void firstsByATick() {
        byATick("a tick later", 61, "stackOf 1 = 1; blocking = 0", "stackOf 1 = 0; blocking = 1");
        byATick("at the same time", 60, "stackOf 1 = 0; blocking = 0", "stackOf 1 = 0; blocking = 0");
        byATick("a tick earlier", 59, "stackOf 1 = 0; blocking = 0", "stackOf 1 = 0; blocking = 0");
    }

    private static void byATick(String sentence, int arrival, String onTwo, String onOne) {
        String exports = "addVessel 60 1 1 1; addVessel " + arrival + " 1 1 1; addContainer 0 0 export 1 0; "
                + "addContainer 1 0 export 1 1; plan = 0; giveSlots = 0; work 2 = 2; ";
        RUNS.holds("41: LEAVING " + sentence + ", two stacks", "addStack 2; addStack 2; " + exports + onTwo);
        RUNS.holds("45: LEAVING " + sentence + ", one stack", "addStack 2; " + exports + onOne);
    }

    /** An import below an export; a slot begins at 60, and the export is moved 2 ticks behind the arrival. */
    private static void leavingByTheLastEvent() {
        String[] sentences = {"a tick ahead of the slot's begin", "as the slot begins", "a tick behind that"};
        for (int i = 0; i < 3; i++) {
            int arrival = 59 + i;
            RUNS.holds("45: an export is taken out " + sentences[i],
                    yard(2) + imports(10, 3) + "addVessel " + arrival + " 1 1 1; addContainer 1 0 export 10 1",
                    GIVEN,
                    "movedAt 1 = " + (arrival + 2) + "; work 2 = 2; containerAt 0 1 = 1",
                    "blocking = " + (arrival > 60 ? 1 : 0));
        }
    }

    private static void leavingWithoutSlot() {
        String two = "addVessel 400 1 1 1; " + imports(10, 1, 10, 1) + "plan; giveSlots = 80; work 2 = 2; ";
        RUNS.holds("41: 1000 on 1000 rather than on an empty stack", "addStack 2; addStack 2; " + two,
                "stackOf 0 = 0; stackOf 1 = 0; blocking = 0");
        RUNS.holds("41: 1000 on an empty stack", "addStack 1; addStack 2; " + two, "stackOf 1 = 1");
        String both = "addVessel 400 1 1 1; addContainer 0 0 export 1 9; addContainer 0 0 import 1 9; "
                + "plan; giveSlots = 40; ";
        RUNS.holds("41: 1000 on an empty stack rather than on 402", "addStack 2; addStack 2; " + both,
                "timeOf 1 = 402; kindOf 1 = 0; work 2; stackOf 0 = 0; stackOf 1 = 1; blocking = 0");
        RUNS.holds("45: 1000 on 402 blocks", "addStack 2; " + both,
                "work 2; stackOf 1 = 0; blocking = 1; work 1 = 3; stateOf 0 = 4");
        RUNS.holds("41: one with a slot on 1000 rather than on an empty stack",
                yard(2, 2) + Runs.roomOnlyIn(5) + imports(1, 0, 1, 5) + "plan; giveSlots = 40",
                "slotOf 0 = -1; slotOf 1 = 5; work 2; stackOf 1 = 0; blocking = 0");
        // 1 is too heavy for 0, so it stands on stack 1; 0 is gone as 2 comes.
        String three = imports(1, 1, 40, 15) + "addVessel 30 1 1 1; addContainer 1 0 import 10 3; plan = 0; ";
        RUNS.holds("41: one with a slot on 1000 rather than on an empty stack with a smaller number",
                yard(2, 2) + Runs.roomOnlyIn(1, 3) + three + "giveSlots = 40; slotOf 1 = -1; slotOf 2 = 3",
                "work 3 = 3; stackOf 1 = 1; heightOf 0 = 0; work 1 = 4; stackOf 2 = 1; blocking = 0");
        RUNS.holds("41: 1000 on 1000 rather than on an empty stack with a smaller number",
                yard(2, 2) + Runs.roomOnlyIn(1) + three + "giveSlots = 80; slotOf 1 = -1; slotOf 2 = -1",
                "work 3 = 3; stackOf 1 = 1; heightOf 0 = 0; work 1 = 4; stackOf 2 = 1; blocking = 0");
    }

    private static void turnedAway() {
        RUNS.holds("40: there are no stacks", yard() + imports(10, 9) + GIVEN,
                "work 1 = 1; stateOf 0 = 3; wouldTake 0 = -2; inTheEnd 1 = 1");
        RUNS.holds("40: all stacks are full", yard(1, 1) + imports(10, 9, 10, 9, 10, 8) + GIVEN,
                "work 3; stateOf 1 = 1; stateOf 2 = 3");
        RUNS.holds("40: too heavy for all of them", yard(2, 2) + imports(1, 9, 10, 9, 19, 8) + GIVEN,
                "work 3; stateOf 1 = 1; stackOf 1 = 1; stateOf 2 = 3");
        RUNS.holds("40: as its truck comes, nothing happens", yard(1) + imports(10, 9, 10, 8) + GIVEN,
                "work 2; stateOf 1 = 3; work 1 = 3; stateOf 1 = 3; stateOf 0 = 1; heightOf 0 = 1; reshuffles = 0",
                "work 1 = 4; stateOf 0 = 2");
        RUNS.holds("40: an export turned away", "addVessel 400 1 1 1; addContainer 0 0 export 1 9; " + GIVEN,
                "work 1; stateOf 0 = 3; work 1 = 2; stateOf 0 = 3; inTheEnd 1 = 1");
    }

    private static void reshuffled() {
        RUNS.holds("44: none yet", ONE_ABOVE, "reshuffles = 0; work 4 = 4; reshuffles = 0");
        RUNS.holds("44: none, as nobody stands above it", yard(2) + imports(10, 9, 10, 8) + GIVEN,
                "work MAX = 4; stateOf 0 = 2; stateOf 1 = 2; reshuffles = 0");
        RUNS.holds("44: one stands above it", ONE_ABOVE,
                "work 4; stackOf 2 = 0; work 1 = 5; reshuffles = 1; stateOf 0 = 2; stackOf 2 = 1; heightOf 0 = 0");
        String three = yard(4, 1, 2) + imports(10, 4, 30, 3, 40, 3, 12, 9, 10, 10, 9, 11) + GIVEN;
        RUNS.holds("44: four above and below, the uppermost one first", three,
                "work 6; containerAt 0 0 = 0; containerAt 0 1 = 3; containerAt 0 2 = 4; containerAt 0 3 = 5",
                "work 3 = 9; reshuffles = 3",
                "containerAt 1 0 = 5; containerAt 2 0 = 4; containerAt 2 1 = 3; heightOf 0 = 0; stateOf 0 = 2");
        RUNS.holds("44: on the stack with number 0, too", yard(1, 2) + imports(40, 3, 10, 4, 18, 9) + GIVEN,
                "work 3; stackOf 0 = 0; stackOf 1 = 1; stackOf 2 = 1; work 1 = 4; wouldTake 1 = 1; work 1 = 5",
                "reshuffles = 1; stackOf 2 = 0");
        RUNS.holds("44: among all stacks but the one on which it stands, though that one is alike and has a place",
                yard(3, 2) + imports(10, 3, 40, 3, 18, 9) + GIVEN,
                "work 3; stackOf 1 = 1; stackOf 2 = 0; wouldTake 0 = 1; work 1 = 4; stateOf 0 = 2; stackOf 2 = 1",
                "reshuffles = 1; work 1 = 5; stateOf 1 = 2; stackOf 2 = 0; reshuffles = 2");
        RUNS.holds("44: those below it stay", yard(3, 3) + imports(10, 9, 10, 8, 10, 7) + GIVEN,
                "work 4 = 4; stateOf 2 = 2; containerAt 0 0 = 0; containerAt 0 1 = 1; heightOf 0 = 2; reshuffles = 0");
        RUNS.holds("44: 0 again with slots given anew", ONE_ABOVE,
                "work 5; reshuffles = 1; giveSlots = 0; reshuffles = 0; work 5; reshuffles = 1");
        RUNS.holds("44: 0 again with a stack added", ONE_ABOVE,
                "work 5; reshuffles = 1; addStack 1 = 2; reshuffles = 0; work MAX = 6; reshuffles = 0");
    }

    private static void missed() {
        RUNS.holds("40: not on the stack on which it stands", yard(5) + imports(10, 3, 10, 9) + GIVEN,
                "work 3 = 3; stateOf 0 = 4; stateOf 1 = 1; containerAt 0 0 = 0; containerAt 0 1 = 1; reshuffles = 0");
        RUNS.holds("40: the other stack is full", ONE_ABOVE + "work 3", "wouldTake 0 = -1; wouldTake 2 = 0");
        RUNS.holds("40: too heavy for the other stack", yard(2, 2) + imports(10, 3, 9, 9, 18, 12) + GIVEN,
                "work 3; stackOf 0 = 0; stackOf 1 = 1; stackOf 2 = 0; wouldTake 0 = -1");
        RUNS.holds("40: nothing is moved at all, though one could be",
                yard(3, 1) + imports(10, 4, 40, 3, 12, 9, 12, 10) + GIVEN,
                "work 5 = 5; containerAt 0 2 = 3; wouldTake 2 = 1; wouldTake 0 = -1; work 1 = 6; stateOf 0 = 4",
                "reshuffles = 0", "containerAt 0 0 = 0; containerAt 0 1 = 2; containerAt 0 2 = 3; heightOf 1 = 0");
        RUNS.holds("40: it stays where it is till the end", SHUT_IN,
                "work MAX = 4; stateOf 0 = 4; stackOf 0 = 0; heightOf 0 = 1; stateOf 1 = 2");
        // 2 is missed at 60, as 1 fills the other stack up to 80; at 100 it has to give way to 0.
        RUNS.holds("40: still 4, though it is moved as another one leaves",
                yard(3, 1) + imports(10, 5, 40, 4, 10, 3, 10, 4) + GIVEN,
                "work 5 = 5; stateOf 2 = 4; work 2 = 7; wouldTake 2 = 0; work 1 = 8; stateOf 0 = 2; stackOf 2 = 1",
                "stateOf 2 = 4; reshuffles = 1; wouldTake 2 = 0; inTheEnd 2 = 1; inTheEnd 3 = 1");
        // 0 and 3 are missed, as 1 and 2 fill the other stacks up to 100.
        RUNS.holds("40: still 4, though tidy moves it",
                yard(3, 1, 1) + imports(10, 3, 40, 5, 40, 5, 10, 4, 10, 9) + GIVEN,
                "work 9 = 9; stateOf 0 = 4; stateOf 3 = 4; blocking = 2; wouldTake 3 = 1; tidy MAX = 2",
                "stackOf 4 = 1; stackOf 3 = 2; stateOf 3 = 4; stateOf 0 = 4; wouldTake 3 = 0; blocking = 0");
        RUNS.holds("40: still 4 with nobody above it", SHUT_IN,
                "work MAX = 4; stateOf 0 = 4; wouldTake 0 = 0; inTheEnd 2 = 1; inTheEnd 3 = 1");
    }

    private static void blocking() {
        RUNS.holds("45: an empty yard", "blocking = 0; " + SHUT_IN, "blocking = 0");
        RUNS.holds("45: one alone", SHUT_IN, "work 1; blocking = 0");
        RUNS.holds("45: one on an earlier one", SHUT_IN, "work 2; blocking = 1");
        RUNS.holds("45: one on one of the same time", yard(2) + imports(10, 9, 10, 9) + GIVEN,
                "work 2; heightOf 0 = 2; blocking = 0");
        RUNS.holds("45: one on a later one", yard(2) + imports(10, 9, 10, 8) + GIVEN,
                "work 2; heightOf 0 = 2; blocking = 0");
        RUNS.holds("45: not only the one right below counts", yard(3) + imports(10, 3, 10, 9, 10, 5) + GIVEN,
                "work 3; heightOf 0 = 3; blocking = 2");
        RUNS.holds("45: not only the lowest one counts", yard(3) + imports(10, 5, 10, 3, 10, 4) + GIVEN,
                "work 3; heightOf 0 = 3; blocking = 1");
        RUNS.holds("45: each counts once", yard(5) + imports(10, 3, 10, 4, 10, 5, 10, 6, 10, 7) + GIVEN,
                "work 5; heightOf 0 = 5; blocking = 4");
        RUNS.holds("45: those missed count, too", SHUT_IN,
                "work 3 = 3; stateOf 0 = 4; blocking = 1; work 1 = 4; blocking = 0");
        RUNS.holds("45: in stacks of their own none blocks", yard(1, 1, 1) + imports(10, 3, 10, 4, 10, 5) + GIVEN,
                "work 3; blocking = 0");
    }

    private static void wouldTake() {
        RUNS.holds("46: -2, not yet come", ONE_ABOVE, "wouldTake 0 = -2; work 1; wouldTake 0 = 0; wouldTake 1 = -2");
        RUNS.holds("46: -2, gone", ONE_ABOVE, "work 4; wouldTake 1 = -2");
        RUNS.holds("46: -2, turned away", yard() + imports(10, 9) + GIVEN, "work 1; wouldTake 0 = -2");
        RUNS.holds("46: -1, it would be missed", SHUT_IN, "work 2; wouldTake 0 = -1");
        RUNS.holds("46: -1, it was missed, and would be", SHUT_IN, "work 3; wouldTake 0 = -1");
        RUNS.holds("46: 0, nobody is above it", SHUT_IN, "work 2; wouldTake 1 = 0");
        RUNS.holds("46: 1", ONE_ABOVE, "work 4; wouldTake 0 = 1");
        RUNS.holds("46: the most, 4",
                yard(5, 2, 2) + imports(20, 5, 40, 4, 40, 3, 40, 4, 40, 3, 20, 9, 20, 9, 20, 10, 20, 10) + GIVEN,
                "work 13 = 13; heightOf 0 = 5; heightOf 1 = 0; heightOf 2 = 0; wouldTake 0 = 4; wouldTake 8 = 0");
        RUNS.holds("46: nothing is moved", ONE_ABOVE,
                "work 4; wouldTake 0 = 1; containerAt 0 1 = 2; heightOf 1 = 0; reshuffles = 0; stateOf 0 = 1");
        RUNS.holds("46: nothing is moved, though it would be missed",
                yard(3, 1) + imports(10, 4, 40, 3, 12, 9, 12, 10) + GIVEN,
                "work 5; wouldTake 0 = -1; containerAt 0 1 = 2; containerAt 0 2 = 3; heightOf 1 = 0; stackOf 3 = 0",
                "stateOf 0 = 1; reshuffles = 0");
    }

    private static void tidyArguments() {
        RUNS.holds("47: nothing there yet", "tidy 0 = 0; tidy 1 = 0; tidy MAX = 0");
        RUNS.holds("47: stacks, but no slots", yard(2, 2) + imports(1, 1),
                "tidy MAX = 0; plan; tidy MAX = 0; reshuffles = 0");
        RUNS.holds("47: -1 is less than 0", "tidy -1 = argument; " + ONE_ABOVE,
                "work 4; tidy -1 = argument; blocking = 1; reshuffles = 0; stackOf 2 = 0");
        RUNS.holds("47: the least int", ONE_ABOVE, "work 4; tidy MIN = argument; blocking = 1");
        RUNS.holds("47: 0 is the least", ONE_ABOVE, "work 4; tidy 0 = 0; blocking = 1; stackOf 2 = 0");
        RUNS.holds("47: the greatest int", ONE_ABOVE,
                "work 4; tidy MAX = 1; blocking = 0; stackOf 2 = 1; reshuffles = 1");
        RUNS.holds("47: 1", ONE_ABOVE, "work 4; tidy 1 = 1; blocking = 0; stackOf 2 = 1");
    }

    private static void tidyAsLongAsItHelps() {
        RUNS.holds("47: nobody blocks", yard(2, 2) + imports(10, 9, 10, 8) + GIVEN,
                "work 2; heightOf 0 = 2; tidy MAX = 0; heightOf 0 = 2; reshuffles = 0");
        RUNS.holds("47: no other stack", SHUT_IN, "work 2; blocking = 1; tidy MAX = 0; stackOf 1 = 0");
        RUNS.holds("47: the other stack is full", ONE_ABOVE, "work 3; blocking = 1; tidy MAX = 0; stackOf 2 = 0");
        RUNS.holds("47: too heavy for the other stack", yard(2, 2) + imports(10, 3, 9, 9, 18, 12) + GIVEN,
                "work 3; blocking = 1; tidy MAX = 0; stackOf 2 = 0");
        RUNS.holds("47: the other stack is full of one that leaves later",
                yard(2, 1) + imports(10, 4, 40, 12, 18, 9) + GIVEN,
                "work 3; blocking = 1; tidy MAX = 0; stackOf 2 = 0");
        RUNS.holds("47: too heavy for one that leaves later", yard(2, 2) + imports(10, 3, 9, 12, 18, 9) + GIVEN,
                "work 3; stackOf 1 = 1; blocking = 1; tidy MAX = 0; stackOf 2 = 0");
        RUNS.holds("47: to the smallest number, though a FIRST behind it is nearer to its LEAVING",
                yard(2, 1, 2) + imports(10, 3, 40, 2, 40, 10, 40, 2, 18, 9) + GIVEN,
                "work 7 = 7; heightOf 1 = 0; containerAt 2 0 = 2; heightOf 2 = 1; blocking = 1; tidy 1 = 1",
                "stackOf 4 = 1; blocking = 0");
        RUNS.holds("47: it would block there, too", yard(2, 2) + imports(10, 3, 30, 2, 10, 9) + GIVEN,
                "work 3; stackOf 1 = 1; stackOf 2 = 0; blocking = 1; tidy MAX = 0; stackOf 2 = 0; reshuffles = 0");
        String two = yard(2, 2, 1, 1) + imports(30, 4, 10, 5, 40, 2, 40, 2, 38, 12, 18, 11) + GIVEN
                + "work 8 = 8; blocking = 2; ";
        RUNS.holds("47: to the stack with number 0, too", yard(1, 2) + imports(40, 3, 10, 4, 18, 9) + GIVEN,
                "work 4; blocking = 1; tidy MAX = 1; blocking = 0; stackOf 2 = 0; reshuffles = 1");
        RUNS.holds("47: on one of the same time it does not block",
                yard(2, 2) + imports(10, 4, 30, 9, 30, 3, 18, 9) + GIVEN,
                "work 5; stackOf 1 = 1; stackOf 3 = 0; blocking = 1; tidy MAX = 1; stackOf 3 = 1; blocking = 0");
        RUNS.holds("47: twelve stacks, the last one is free",
                "10 x addStack 1; addStack 2; addStack 1; addVessel 0 1 1 1; 10 x addContainer 0 0 import 40 15",
                "setRoom 15 6; setRoom 14 6",
                "addContainer 0 0 import 10 4; addContainer 0 0 import 40 3; addContainer 0 0 import 18 9; plan",
                "giveSlots = 4; work 13",
                "stackOf 12 = 10; blocking = 1; tidy MAX = 0; work 1 = 14; stateOf 11 = 2; tidy MAX = 1",
                "stackOf 12 = 11");
        RUNS.holds("47: from the smallest stack to the smallest one", two,
                "tidy 1 = 1; stackOf 4 = 2; stackOf 5 = 1; blocking = 1; reshuffles = 1");
        RUNS.holds("47: at most 2, and 2 help", two,
                "tidy 2 = 2; stackOf 4 = 2; stackOf 5 = 3; blocking = 0; reshuffles = 2");
        RUNS.holds("47: at most 3, but only 2 help", two,
                "tidy 3 = 2; blocking = 0; reshuffles = 2; tidy 3 = 0; reshuffles = 2");
        RUNS.holds("47: one and then another one", two, "tidy 1 = 1; tidy 1 = 1; tidy 1 = 0; blocking = 0");
        RUNS.holds("47: it counts with those of events", ONE_ABOVE,
                "work 4; tidy 1 = 1; reshuffles = 1; work MAX = 6; reshuffles = 1; stateOf 2 = 2");
    }

    private static void inTheEndArguments() {
        RUNS.holds("48: no slots", "inTheEnd 0 = state; inTheEnd 3 = state; " + SHUT_IN,
                "setRoom 0 2; inTheEnd 0 = state");
        RUNS.holds("48: what first, then no slots",
                "inTheEnd -1 = argument; inTheEnd 4 = argument; inTheEnd MIN = argument; inTheEnd MAX = argument");
        RUNS.holds("48: 0 is the least", SHUT_IN, "inTheEnd 0 = 0");
        RUNS.holds("48: 3 is the greatest", SHUT_IN, "inTheEnd 3 = 1");
        RUNS.holds("48: -1 is too small", SHUT_IN, "inTheEnd -1 = argument");
        RUNS.holds("48: 4 is too large", SHUT_IN, "inTheEnd 4 = argument");
        RUNS.holds("48: the ends of int", SHUT_IN, "inTheEnd MIN = argument; inTheEnd MAX = argument");
        RUNS.holds("48: no container", yard(1) + GIVEN,
                "inTheEnd 0 = 0; inTheEnd 1 = 0; inTheEnd 2 = 0; inTheEnd 3 = 0");
    }

    private static void inTheEnd() {
        RUNS.holds("48: reshuffles", ONE_ABOVE, "inTheEnd 0 = 1; inTheEnd 1 = 0; inTheEnd 2 = 0; inTheEnd 3 = 0");
        RUNS.holds("48: missed, and in the yard", SHUT_IN,
                "inTheEnd 0 = 0; inTheEnd 1 = 0; inTheEnd 2 = 1; inTheEnd 3 = 1");
        RUNS.holds("48: nobody blocks, as each stands where it leaves last", yard(2, 2) + imports(10, 8, 10, 9) + GIVEN,
                "inTheEnd 0 = 0; inTheEnd 2 = 0; work 2; stackOf 1 = 1; inTheEnd 0 = 0; work MAX = 4; reshuffles = 0");
        RUNS.holds("48: turned away", yard(1) + imports(10, 9, 10, 8, 10, 7) + GIVEN, "inTheEnd 1 = 2; inTheEnd 3 = 0");
        RUNS.holds("48: nothing is changed", ONE_ABOVE,
                "work 3; inTheEnd 0 = 1; reshuffles = 0; stateOf 1 = 1; stackOf 2 = 0; work 0 = 3; work 1 = 4");
        RUNS.holds("48: from now on, with what there is", ONE_ABOVE,
                "work 4; tidy 1 = 1; inTheEnd 0 = 1; work MAX; inTheEnd 0 = 1; reshuffles = 1");
        // 1 is gone at 40; tidy takes 2 from 0 away, and so the place from 3, which comes at 50.
        String tidied = yard(2, 1) + imports(10, 3, 40, 2, 18, 9) + "addVessel 48 1 1 1; "
                + "addContainer 1 0 import 40 12; " + GIVEN + "work 4 = 4; ";
        RUNS.holds("48: from now on, without tidy",
                tidied + "inTheEnd 0 = 0; inTheEnd 1 = 0; inTheEnd 2 = 1; inTheEnd 3 = 1");
        RUNS.holds("48: from now on, behind tidy",
                tidied + "tidy 1 = 1; inTheEnd 0 = 1; inTheEnd 1 = 1; inTheEnd 2 = 0; inTheEnd 3 = 0",
                "work 1 = 5; stateOf 3 = 3; work MAX = 8; stateOf 0 = 2; stateOf 2 = 2; reshuffles = 1");
        RUNS.holds("48: all of 48 events",
                "12 x addStack 5; addVessel 0 1 1 1; 24 x addContainer 0 0 import 7 8; plan; giveSlots; events = 48",
                "inTheEnd 3 = 0; inTheEnd 2 = 0; work 0 = 0; work 24 = 24; inTheEnd 3 = 0; heightOf 0 = 2");
        RUNS.holds("48: all are worked off", SHUT_IN,
                "work MAX = 4; inTheEnd 0 = 0; inTheEnd 1 = 0; inTheEnd 2 = 1; inTheEnd 3 = 1; work 0 = 4");
        RUNS.holds("48: those that stand and those missed",
                "addStack 2; addVessel 0 1 1 1; addVessel 400 1 1 1; " + imports(10, 3, 10, 9),
                "addContainer 1 0 import 10 1; plan; giveSlots = 40; inTheEnd 2 = 1; inTheEnd 3 = 2");
    }
}
