import java.util.Arrays;
import java.util.HashMap;
import java.util.Map;
import java.util.Random;

/** Long runs of calls, always the same ones, each answer held against PlainModel's. */
public final class RandomRunsTest {
    private static final int RUNS = 1200;
    private static final String[] SET_CALLS = {
        "setQuay", "setCranes", "addVessel", "setVessel", "addContainer", "setWish", "setRoom", "addStack",
    };
    private static final String[] ASK_CALLS = {
        "vessels", "containers", "stacks", "work2", "ranges", "firstBay", "load", "beginOf", "endOf", "handling",
        "waits", "isPlanned", "orderAt", "startOf", "placeOf", "vesselAt", "cranesAt", "delayByNumbers", "delayIf",
        "movedAt", "slotOf", "inSlot", "costIf", "events", "timeOf", "kindOf", "containerOf", "stateOf", "stackOf",
        "heightOf", "containerAt", "reshuffles", "blocking", "wouldTake", "inTheEnd", "meanWait", "digest",
    };
    private static final int[] WRONG = {-1, Integer.MIN_VALUE, Integer.MAX_VALUE, 16, 61, 401, 24, 6, 7, 0};

    private final Check check = new Check("RandomRunsTest");
    private final Calls onModel = new Calls(PlainModel.class);
    private final Map<String, Integer> seen = new HashMap<>();
    private Random random;
    private Stevedore program;
    private PlainModel model;
    private int run;

    public static void main(String[] args) {
        RandomRunsTest test = new RandomRunsTest();
        for (int run = 0; run < RUNS; run++) {
            test.oneRun(run);
        }
        test.needSeen();
        test.check.end();
    }

    private void oneRun(int number) {
        run = number;
        random = new Random(number);
        program = new Stevedore();
        model = new PlainModel();
        switch (number % 4) {
            case 0 -> wildRun();
            case 1 -> berthRun();
            case 2 -> slotRun();
            default -> yardRun();
        }
    }

    /** Everything in any order, wrong arguments too. */
    private void wildRun() {
        for (int i = 0; i < 220; i++) {
            int turn = random.nextInt(100);
            if (turn < 25 - i / 10) {
                any(SET_CALLS[random.nextInt(SET_CALLS.length)]);
            } else if (turn < 31) {
                any("plan");
            } else if (turn < 39) {
                any("giveSlots");
            } else if (turn < 50) {
                any("work1");
            } else if (turn < 53) {
                any("tidy");
            } else {
                any(ASK_CALLS[random.nextInt(ASK_CALLS.length)]);
            }
        }
        call("digest");
    }

    /** Many vessels at once on a short quay. */
    private void berthRun() {
        for (int s = 0; s < 14; s++) {
            call("addStack", 1 + s % 5);
        }
        int longest = 1 + random.nextInt(10);
        call("setQuay", Math.max(4, longest + random.nextInt(15)));
        int cranes = 1 + random.nextInt(6);
        call("setCranes", cranes);
        int vessels = 1 + random.nextInt(6);
        int last = random.nextInt(4) == 0 ? 400 : random.nextInt(40);
        for (int v = 0; v < vessels; v++) {
            int wanted = 1 + random.nextInt(Math.min(4, cranes));
            call("addVessel", random.nextInt(last + 1), 1 + random.nextInt(longest), 1 + random.nextInt(9), wanted);
        }
        int containers = random.nextInt(25);
        for (int c = 0; c < containers; c++) {
            addContainerTo(random.nextInt(vessels));
        }
        call("plan");
        call("digest");
        for (int i = 0; i < 8; i++) {
            call("delayIf", random.nextInt(vessels), random.nextInt(last + 30) % 401);
            any("vesselAt");
            any("cranesAt");
        }
        call("delayByNumbers");
        call("meanWait");
        any("setVessel");
        call("plan");
        call("digest");
    }

    /** Many containers, few slots that all can have. */
    private void slotRun() {
        int vessels = 1 + random.nextInt(3);
        for (int v = 0; v < vessels; v++) {
            call("addVessel", random.nextInt(320), 1 + random.nextInt(6), 1 + random.nextInt(9), 1 + random.nextInt(3));
        }
        int containers = 1 + random.nextInt(24);
        for (int c = 0; c < containers; c++) {
            addContainerTo(random.nextInt(vessels));
        }
        int most = random.nextInt(4);
        for (int s = 0; s < 16; s++) {
            call("setRoom", s, random.nextInt(most + 1));
        }
        call("plan");
        call("giveSlots");
        call("digest");
        for (int i = 0; i < 6; i++) {
            call("costIf", random.nextInt(16), random.nextInt(7));
            call("inSlot", random.nextInt(16));
            call("slotOf", random.nextInt(containers));
        }
        call("setWish", random.nextInt(containers), random.nextInt(16));
        call("giveSlots");
        call("digest");
    }

    /** Few stacks, and much that comes and goes. */
    private void yardRun() {
        int stacks = random.nextInt(6) == 0 ? 12 : random.nextInt(6);
        for (int s = 0; s < stacks; s++) {
            call("addStack", 1 + random.nextInt(5));
        }
        int vessels = 1 + random.nextInt(4);
        for (int v = 0; v < vessels; v++) {
            call("addVessel", random.nextInt(150), 1 + random.nextInt(4), 1 + random.nextInt(9), 1 + random.nextInt(3));
        }
        for (int c = 0; c < 24; c++) {
            addContainerTo(random.nextInt(vessels));
        }
        int slot = random.nextInt(16);
        call("setRoom", slot, 0);
        call("setRoom", (slot + 5) % 16, 6);
        call("plan");
        call("giveSlots");
        for (int i = 0; i < 38; i++) {
            call("work1", random.nextInt(3));
            if (random.nextInt(3) == 0) {
                call("tidy", random.nextInt(3));
            }
            for (int j = 0; j < 3; j++) {
                call("wouldTake", random.nextInt(24));
                call("stateOf", random.nextInt(24));
            }
            call("inTheEnd", random.nextInt(4));
            call("blocking");
            call("reshuffles");
            call("digest");
            if (i == 20) {
                call(random.nextBoolean() ? "giveSlots" : "blocking");
            }
        }
    }

    private void addContainerTo(int vessel) {
        int bay = random.nextInt(10);
        while (bay > 0 && onModel.told(model, "work2", vessel, bay).startsWith("throws")) {
            bay /= 2;
        }
        int weight = random.nextBoolean() ? 1 + random.nextInt(40) : 10 + random.nextInt(12);
        call("addContainer", vessel, bay, random.nextInt(2), weight, random.nextInt(16));
    }

    /** The call with arguments that mostly are good ones. */
    private void any(String name) {
        switch (name) {
            case "setQuay" -> call(name, some(4, 61));
            case "setCranes" -> call(name, some(1, 7));
            case "addVessel" -> call(name, some(0, 401), some(1, 11), some(1, 10), some(1, 5));
            case "setVessel" -> call(name, some(0, model.vessels()), some(0, 401), some(1, 5));
            case "addContainer" -> call(name, some(0, model.vessels()), some(0, 4), random.nextInt(2),
                    some(1, 41), some(0, 16));
            case "setWish" -> call(name, some(0, model.containers()), some(0, 16));
            case "setRoom", "costIf" -> call(name, some(0, 16), some(0, 7));
            case "addStack" -> call(name, some(1, 6));
            case "ranges", "load", "handling", "waits", "startOf", "placeOf", "orderAt" ->
                call(name, some(0, model.vessels()));
            case "work2", "beginOf", "endOf" -> call(name, some(0, model.vessels()), some(0, 6));
            case "firstBay" -> call(name, some(0, model.vessels()), some(0, 3));
            case "vesselAt" -> call(name, some(0, 20), some(0, 450));
            case "cranesAt" -> call(name, some(0, 450));
            case "delayIf" -> call(name, some(0, model.vessels()), some(0, 401));
            case "movedAt", "slotOf", "stateOf", "stackOf", "wouldTake" -> call(name, some(0, model.containers()));
            case "inSlot" -> call(name, some(0, 16));
            case "timeOf", "kindOf", "containerOf" -> call(name, some(0, model.events()));
            case "work1", "tidy" -> call(name, some(0, 12));
            case "heightOf" -> call(name, some(0, model.stacks()));
            case "containerAt" -> call(name, some(0, model.stacks()), some(0, 3));
            case "inTheEnd" -> call(name, some(0, 4));
            default -> call(name);
        }
    }

    private int some(int least, int end) {
        if (end <= least || random.nextInt(15) == 0) {
            return random.nextInt(3) == 0 ? end : WRONG[random.nextInt(WRONG.length)];
        }
        return least + random.nextInt(end - least);
    }

    private void call(String name, int... numbers) {
        String due = onModel.told(model, name, numbers);
        String got = Calls.FACE.told(program, name, numbers);
        check.same("run " + run + ": " + name + Arrays.toString(numbers), due, got);
        seen.merge(name + " " + (due.length() == 1 || due.startsWith("-") || due.startsWith("throws") ? due : "more"),
                1, Integer::sum);
    }

    /** The runs say nothing about what never comes up in them. */
    private void needSeen() {
        String[] due = {
            "plan -1", "plan 0", "plan more", "plan throws java.lang.IllegalStateException", "delayIf -1",
            "vesselAt -1",
            "delayByNumbers -1", "slotOf -1", "stateOf 0", "stateOf 1", "stateOf 2", "stateOf 3", "stateOf 4",
            "wouldTake -2", "wouldTake -1", "wouldTake 0", "wouldTake 1", "wouldTake 2", "wouldTake 3",
            "tidy 0", "tidy 1", "tidy 2", "blocking 2", "reshuffles 5", "inTheEnd 3", "waits 1",
            "addVessel throws java.lang.IllegalStateException", "addStack throws java.lang.IllegalStateException",
        };
        for (String what : due) {
            check.holds("came up at least 10 times: " + what, seen.getOrDefault(what, 0) >= 10);
        }
    }
}
