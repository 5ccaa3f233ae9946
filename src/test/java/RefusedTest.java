import java.util.List;

/**
 * A method that throws an exception changes nothing, and if several exceptions apply, the one that is named first is
 * thrown: each call in each state with good and wrong numbers in all their combinations. PlainModel tells which
 * exception is due; an object on which the call was refused has to answer like one on which it was never made.
 */
public final class RefusedTest {
    private static final Check CHECK = new Check("RefusedTest");
    private static final Calls MODEL = new Calls(PlainModel.class);

    private static final String THINGS = "addVessel 5 3 4 2; addVessel 0 2 1 1; addStack 3; addStack 2; "
            + "addContainer 0 0 import 10 2; addContainer 0 0 import 20 1; addContainer 0 2 import 30 3; "
            + "addContainer 1 1 export 5 0; addContainer 1 0 import 8 1; setRoom 1 1";
    private static final String FULL = "3 x addVessel 3 2 4 1; 3 x addVessel 40 1 2 2; 11 x addStack 2; addStack 1; "
            + "16 x addContainer 1 1 import 10 4; 8 x addContainer 4 0 export 12 1; plan; giveSlots";
    private static final String[][] STATES = {
        {"new", ""},
        {"a vessel alone", "addVessel 5 3 4 2"},
        {"stacks alone", "addStack 1; addStack 5"},
        {"things", THINGS},
        {"no plan, as one cannot be planned", THINGS + "; setQuay 4; addVessel 9 5 1 1; plan"},
        {"planned", THINGS + "; plan"},
        {"given", THINGS + "; plan; giveSlots"},
        {"in the midst of its work", THINGS + "; plan; giveSlots; work 5; tidy 1"},
        {"worked off", THINGS + "; plan; giveSlots; work MAX"},
        {"all full", FULL + "; work 17"},
    };
    /** By call: its numbers' bounds; a name tells how many there are of that, bits are two numbers for a boolean. */
    private static final String[] CALLS = {
        "setQuay 4..60", "setCranes 1..6", "addVessel 0..400 1..10 1..9 1..4", "setVessel vessels 0..400 1..4",
        "addContainer vessels bays bits 1..40 0..15", "setWish containers 0..15", "setRoom slots 0..6", "addStack 1..5",
        "work vessels bays", "ranges vessels", "firstBay vessels ranges", "load vessels", "beginOf vessels bays",
        "endOf vessels bays", "handling vessels", "waits vessels", "plan", "orderAt vessels", "startOf vessels",
        "placeOf vessels", "vesselAt berths times", "cranesAt times", "delayByNumbers", "delayIf vessels 0..400",
        "movedAt containers", "giveSlots", "slotOf containers", "inSlot slots", "costIf slots 0..6", "timeOf events",
        "kindOf events", "containerOf events", "work 0..MAX", "stateOf containers", "stackOf containers",
        "heightOf stacks", "containerAt stacks levels", "wouldTake containers", "tidy 0..MAX", "inTheEnd 0..3",
    };

    private final String state;
    private final String calls;
    private final List<String> shown;
    private final List<String> hidden;
    private PlainModel model;
    private int refused;

    public static void main(String[] args) {
        for (String[] state : STATES) {
            new RefusedTest(state[0], state[1]).tryAll();
        }
        CHECK.end();
    }

    private RefusedTest(String state, String calls) {
        this.state = state;
        this.calls = calls;
        shown = Reading.shown(program());
        hidden = Reading.hidden(program());
        model = model();
    }

    private Stevedore program() {
        Stevedore x = new Stevedore();
        Runs.make(Calls.FACE, x, calls);
        return x;
    }

    private PlainModel model() {
        PlainModel made = new PlainModel();
        Runs.make(MODEL, made, calls);
        return made;
    }

    private void tryAll() {
        int most = Runs.make(Calls.FACE, new Stevedore(), calls) + 1 + Math.max(shown.size(), hidden.size());
        CHECK.holds(state + ": at most 512 calls, " + most, most <= Runs.MOST_CALLS);
        for (String call : CALLS) {
            String[] words = call.split(" ");
            tryWith(words[0], words, 1);
        }
        CHECK.holds(state + ": many calls are refused, " + refused, refused > 500);
    }

    /** The call so far, with each number that the next word tells. */
    private void tryWith(String call, String[] words, int next) {
        if (next >= words.length) {
            tryCall(call);
            return;
        }
        for (int number : numbers(words[next], words.length)) {
            tryWith(call + " " + number, words, next + 1);
        }
    }

    private int[] numbers(String word, int length) {
        if (word.equals("bits")) {
            return new int[] {0, 1};
        }
        int least = 0;
        int most;
        int sign = word.indexOf("..");
        if (sign >= 0) {
            least = Integer.parseInt(word.substring(0, sign));
            String end = word.substring(sign + 2);
            most = end.equals("MAX") ? Integer.MAX_VALUE : Integer.parseInt(end);
        } else {
            most = count(word) - 1;
        }
        // The combinations of many numbers would be too many with the ends of int; EdgesOf.. look at these.
        return length > 3 ? new int[] {least - 1, least, most, most + 1}
                : new int[] {Integer.MIN_VALUE, least - 1, least, most, most + 1, Integer.MAX_VALUE};
    }

    private int count(String word) {
        switch (word) {
            case "vessels":
                return model.vessels();
            case "containers":
                return model.containers();
            case "stacks":
                return model.stacks();
            case "events":
                return model.events();
            case "berths":
                return state.startsWith("no plan") ? 4 : 20;
            case "slots":
                return 16;
            case "ranges":
            case "levels":
                return 2;
            case "bays":
                return 3;
            case "times":
                return 9;
            default:
                throw new IllegalArgumentException(word);
        }
    }

    private void tryCall(String call) {
        String due = Runs.answer(MODEL, model, call);
        Stevedore x = program();
        CHECK.same(state + ": " + call, due, Runs.answer(Calls.FACE, x, call));
        if (!due.startsWith("throws")) {
            model = model();
            return;
        }
        refused++;
        CHECK.holds(state + ": " + call + " leaves what is shown", shown.equals(Reading.shown(x)));
        Stevedore y = program();
        Runs.answer(Calls.FACE, y, call);
        CHECK.holds(state + ": " + call + " leaves what is hidden", hidden.equals(Reading.hidden(y)));
    }
}
