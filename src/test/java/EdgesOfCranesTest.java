/** The edges of promises 13 to 20 and of section 2, a sentence each: how cranes go over a vessel. */
public final class EdgesOfCranesTest {
    private static final Check CHECK = new Check("EdgesOfCranesTest");
    private static final Runs RUNS = new Runs(CHECK);
    private static final String[] OF_VESSEL = {"ranges %s", "firstBay %s 0", "load %s", "handling %s", "waits %s",
        "work %s 0", "beginOf %s 0", "endOf %s 0"};
    private static final String[] OF_BAY = {"work", "beginOf", "endOf"};

    public static void main(String[] args) {
        noSuchVessel();
        noSuchBay();
        noSuchRange();
        workOfBays();
        rangesAsManyAsCanBe();
        loads();
        whichRanges();
        craneGoing();
        craneWaiting();
        beginsAndEnds();
        CHECK.end();
    }

    private static void noSuchVessel() {
        String two = "addVessel 7 3 4 2; addVessel 0 1 1 1; ";
        for (String call : OF_VESSEL) {
            String name = "13 to 20: " + call;
            RUNS.holds(name + ", no vessel yet", String.format(call, "0") + " = index");
            RUNS.holds(name + ", the first one", two + String.format(call, "0"));
            RUNS.holds(name + ", the last one", two + String.format(call, "1"));
            RUNS.holds(name + ", -1 is none", two + String.format(call, "-1") + " = index");
            RUNS.holds(name + ", one more than the last is none", two + String.format(call, "2") + " = index");
            RUNS.holds(name + ", the least int is none", two + String.format(call, "MIN") + " = index");
            RUNS.holds(name + ", the greatest int is none", two + String.format(call, "MAX") + " = index");
            String six = "6 x addVessel 0 1 1 1; ";
            RUNS.holds(name + ", the sixth", six + String.format(call, "5"));
            RUNS.holds(name + ", the seventh is none", six + String.format(call, "6") + " = index");
        }
    }

    private static void noSuchBay() {
        String two = "addVessel 7 3 4 2; addVessel 0 10 1 1; ";
        for (String call : OF_BAY) {
            String name = "13, 17, 18: " + call;
            RUNS.holds(name + ", the first bay", two + call + " 0 0; " + call + " 1 0");
            RUNS.holds(name + ", the last bay of 3", two + call + " 0 2");
            RUNS.holds(name + ", bay 3 of 3 is none, though another vessel has it", two + call + " 0 3 = index");
            RUNS.holds(name + ", the last bay of 10", two + call + " 1 9");
            RUNS.holds(name + ", bay 10 of 10 is none", two + call + " 1 10 = index");
            RUNS.holds(name + ", bay -1 is none", two + call + " 0 -1 = index; " + call + " 1 -1 = index");
            RUNS.holds(name + ", the least int is none", two + call + " 1 MIN = index");
            RUNS.holds(name + ", the greatest int is none", two + call + " 1 MAX = index");
            RUNS.holds(name + ", the only bay", "addVessel 0 1 1 4; " + call + " 0 0; " + call + " 0 1 = index");
        }
    }

    private static void noSuchRange() {
        RUNS.holds("15: the first range begins with bay 0", "addVessel 0 10 1 4; firstBay 0 0 = 0");
        RUNS.holds("15: the last range of 4", "addVessel 0 10 1 4; firstBay 0 3 = 7; firstBay 0 4 = index");
        RUNS.holds("15: the only range", "addVessel 0 10 1 1; firstBay 0 0 = 0; firstBay 0 1 = index");
        RUNS.holds("15: as many ranges as there are, not as are wanted",
                "addVessel 0 2 1 4; ranges 0 = 2; firstBay 0 1 = 1; firstBay 0 2 = index; firstBay 0 3 = index");
        RUNS.holds("15: a range that is there no more",
                "addVessel 0 4 1 4; firstBay 0 3 = 3; setVessel 0 0 1; firstBay 0 1 = index; firstBay 0 3 = index");
        RUNS.holds("15: range -1 is none", "addVessel 0 10 1 4; firstBay 0 -1 = index");
        RUNS.holds("15: the ends of int are none",
                "addVessel 0 10 1 4; firstBay 0 MIN = index; firstBay 0 MAX = index");
    }

    private static void workOfBays() {
        RUNS.holds("13: no container", "addVessel 0 2 1 1; work 0 0 = 0; work 0 1 = 0");
        RUNS.holds("13: 2 for each, imports and exports",
                "addVessel 0 2 1 1; addContainer 0 1 import 40 0; work 0 1 = 2; addContainer 0 1 export 1 0",
                "work 0 1 = 4",
                "work 0 0 = 0");
        RUNS.holds("13: all 24 in one bay", "addVessel 0 1 1 4; 24 x addContainer 0 0 import 1 0",
                "work 0 0 = 48; load 0 = 48; endOf 0 0 = 48; handling 0 = 48; ranges 0 = 1; waits 0 = 0");
        RUNS.holds("13: that of another vessel does not count",
                "addVessel 0 1 1 1; addVessel 0 1 1 1; addContainer 0 0 import 1 0; work 0 0 = 2; work 1 0 = 0");
        RUNS.holds("13: a refused container is no work",
                "addVessel 0 1 1 1; addContainer 0 0 import 0 0 = argument; addContainer 0 0 import 1 16 = argument",
                "work 0 0 = 0; handling 0 = 1");
    }

    private static void rangesAsManyAsCanBe() {
        RUNS.holds("14: one crane, one range", "addVessel 0 10 1 1; ranges 0 = 1; load 0 = 19");
        RUNS.holds("14: two cranes", "addVessel 0 10 1 2; ranges 0 = 2; load 0 = 9");
        RUNS.holds("14: three cranes", "addVessel 0 10 1 3; ranges 0 = 3; load 0 = 7");
        RUNS.holds("14: four cranes", "addVessel 0 10 1 4; ranges 0 = 4; load 0 = 5");
        RUNS.holds("14: each of at least one bay, of 1", "addVessel 0 1 1 4; ranges 0 = 1; load 0 = 1");
        RUNS.holds("14: each of at least one bay, of 2", "addVessel 0 2 1 4; ranges 0 = 2; load 0 = 1");
        RUNS.holds("14: each of at least one bay, of 3", "addVessel 0 3 1 4; ranges 0 = 3; load 0 = 1");
        RUNS.holds("14: each of at least one bay, of 4", "addVessel 0 4 1 4; ranges 0 = 4; load 0 = 1");
        RUNS.holds("14: what there is of cranes does not count", "setCranes 1; addVessel 0 4 1 4; ranges 0 = 4");
    }

    private static void loads() {
        RUNS.holds("16: 1 for a bay without work", "addVessel 0 1 1 1; load 0 = 1");
        RUNS.holds("16: its work alone for a bay with work",
                "addVessel 0 1 1 1; addContainer 0 0 export 1 0; load 0 = 2; addContainer 0 0 export 1 0; load 0 = 4");
        RUNS.holds("16: 1 for each bay but the first", "addVessel 0 2 1 1; load 0 = 3");
        RUNS.holds("16: with and without work", "addVessel 0 3 1 1; addContainer 0 1 import 1 0; load 0 = 6");
        RUNS.holds("16: all 24 on ten bays",
                "addVessel 0 10 1 1; 12 x addContainer 0 0 import 1 0; 12 x addContainer 0 9 import 1 0; load 0 = 65");
        RUNS.holds("16: the greatest, be it of the first range",
                "addVessel 0 2 1 2; 3 x addContainer 0 0 import 1 0; addContainer 0 1 import 1 0; load 0 = 6");
        RUNS.holds("16: the greatest, be it of the last range",
                "addVessel 0 2 1 2; 3 x addContainer 0 1 import 1 0; addContainer 0 0 import 1 0; load 0 = 6");
    }

    private static void whichRanges() {
        RUNS.holds("14: as few ranges as can be, if a third one does not help",
                "addVessel 0 3 1 3; 3 x addContainer 0 0 import 1 0; load 0 = 6; ranges 0 = 2; firstBay 0 1 = 1");
        RUNS.holds("14: one range, if a second one does not help", "addVessel 0 1 1 2; ranges 0 = 1");
        RUNS.holds("14: a range more, if the load is less by 1 then",
                "addVessel 0 5 1 2; 3 x addContainer 0 4 import 1 0; ranges 0 = 2; load 0 = 7; setVessel 0 0 3",
                "ranges 0 = 3; load 0 = 6");
        RUNS.holds("15: the first range has as few bays as can be", "addVessel 0 3 1 2; load 0 = 3; firstBay 0 1 = 1");
        RUNS.holds("15: the first range has no fewer than can be", "addVessel 0 4 1 2; load 0 = 3; firstBay 0 1 = 2");
        RUNS.holds("15: then the second one has as few as can be", "addVessel 0 5 1 3; 3 x addContainer 0 0 import 1 0",
                "ranges 0 = 3; load 0 = 6; firstBay 0 1 = 1; firstBay 0 2 = 2");
        RUNS.holds("15: and so on: the third one", "addVessel 0 6 1 4; 3 x addContainer 0 0 import 1 0",
                "3 x addContainer 0 1 export 1 0; ranges 0 = 4; load 0 = 6",
                "firstBay 0 1 = 1; firstBay 0 2 = 2; firstBay 0 3 = 3");
        RUNS.holds("15: the first range ahead of the second one", "addVessel 0 10 1 4",
                "firstBay 0 1 = 1; firstBay 0 2 = 4; firstBay 0 3 = 7");
    }

    private static void craneGoing() {
        RUNS.holds("17: the first tick is 0", "addVessel 9 1 1 1; beginOf 0 0 = 0; endOf 0 0 = 1");
        RUNS.holds("17: going out of a bay without work takes a tick",
                "addVessel 0 2 1 1; beginOf 0 1 = 2; handling 0 = 3");
        RUNS.holds("17: going out of a bay with work takes a tick",
                "addVessel 0 2 1 1; addContainer 0 0 import 1 0; beginOf 0 1 = 3; endOf 0 0 = 2; handling 0 = 4");
        RUNS.holds("17: as it enters, it does 1 of the work",
                "addVessel 0 2 1 1; 2 x addContainer 0 0 import 1 0; endOf 0 0 = 4; beginOf 0 1 = 5");
        RUNS.holds("17: the last of ten bays", "addVessel 0 10 1 1; beginOf 0 9 = 18; endOf 0 9 = 19; handling 0 = 19");
        RUNS.holds("17: each range's crane is ahead of its first bay", "addVessel 0 4 1 2",
                "beginOf 0 0 = 0; beginOf 0 1 = 2; beginOf 0 2 = 0; beginOf 0 3 = 2; waits 0 = 0; handling 0 = 3");
    }

    private static void craneWaiting() {
        RUNS.holds("20: a crane alone never waits", "addVessel 0 10 1 1; waits 0 = 0");
        RUNS.holds("20: the next crane is in the bay behind it", "addVessel 0 2 1 2",
                "beginOf 0 1 = 0; beginOf 0 0 = 1; waits 0 = 1; handling 0 = 2");
        RUNS.holds("20: the next crane is two bays behind it", "addVessel 0 4 1 2; beginOf 0 0 = 0; waits 0 = 0");
        RUNS.holds("20: the next crane is ahead of the bay behind it only", "addVessel 0 3 1 3",
                "beginOf 0 2 = 0; beginOf 0 1 = 1; beginOf 0 0 = 0; waits 0 = 1");
        RUNS.holds("20: the next crane goes out in the same tick, as it is first",
                "addVessel 0 4 1 2; addContainer 0 2 import 1 0; firstBay 0 1 = 2",
                "beginOf 0 2 = 0; endOf 0 2 = 2; beginOf 0 3 = 3; beginOf 0 1 = 2; waits 0 = 0");
        RUNS.holds("20: the next crane goes out 2 ticks later",
                "addVessel 0 4 1 2; 2 x addContainer 0 2 import 1 0; firstBay 0 1 = 2",
                "endOf 0 2 = 4; beginOf 0 3 = 5; beginOf 0 1 = 4; waits 0 = 2");
        RUNS.holds("20: of all cranes together",
                "addVessel 0 4 1 4; 8 x addContainer 0 3 import 1 0; 8 x addContainer 0 1 import 1 0",
                "ranges 0 = 4; beginOf 0 3 = 0; beginOf 0 2 = 16; beginOf 0 1 = 0; beginOf 0 0 = 16; waits 0 = 32");
    }

    private static void beginsAndEnds() {
        RUNS.holds("18: BEGIN and 1 without work", "addVessel 0 2 1 2; beginOf 0 0 = 1; endOf 0 0 = 2");
        RUNS.holds("18: BEGIN and its work",
                "addVessel 0 2 1 2; addContainer 0 0 import 1 0; beginOf 0 0 = 1; endOf 0 0 = 3; endOf 0 1 = 1");
        RUNS.holds("19: the greatest END, be it of the first bay",
                "addVessel 0 2 1 2; 5 x addContainer 0 0 import 1 0; endOf 0 0 = 11; endOf 0 1 = 1; handling 0 = 11");
        RUNS.holds("19: the greatest END, be it of the last bay",
                "addVessel 0 2 1 2; 5 x addContainer 0 1 import 1 0; endOf 0 1 = 10; endOf 0 0 = 11; handling 0 = 11",
                "setVessel 0 0 1; handling 0 = 12; endOf 0 1 = 12; endOf 0 0 = 1");
        RUNS.holds("19: the greatest END, be it in the middle",
                "addVessel 0 3 1 3; 5 x addContainer 0 1 import 1 0; endOf 0 2 = 1; endOf 0 1 = 11; endOf 0 0 = 1",
                "handling 0 = 11");
        RUNS.holds("19: less again with more cranes, and more with fewer",
                "addVessel 0 4 1 1; handling 0 = 7; setVessel 0 0 4",
                "handling 0 = 2; waits 0 = 2; setVessel 0 0 1; handling 0 = 7; waits 0 = 0");
        RUNS.holds("19: does not hang on its arrival",
                "addVessel 400 3 1 1; handling 0 = 5; setVessel 0 0 1; handling 0 = 5");
    }
}
