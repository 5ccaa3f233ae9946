import java.util.ArrayList;
import java.util.List;

/** What the reading calls of an object answer, each as a text with the call. */
final class Reading {
    private final Object object;
    private final List<String> told = new ArrayList<>();

    private Reading(Object object) {
        this.object = object;
    }

    /** Changes nothing; of all that is numbered one more than there is is asked for, too. */
    static List<String> shown(Stevedore x) {
        Reading reading = new Reading(x);
        for (String name : new String[] {"vessels", "containers", "stacks", "isPlanned", "events", "reshuffles",
            "blocking", "meanWait", "delayByNumbers", "digest"}) {
            reading.ask(name);
        }
        for (int v = 0; v <= x.vessels(); v++) {
            reading.askOfVessel(v);
        }
        for (int c = 0; c <= x.containers(); c++) {
            reading.askEach(c, "movedAt", "slotOf", "stateOf", "stackOf", "wouldTake");
        }
        for (int s = 0; s <= x.stacks(); s++) {
            reading.ask("heightOf", s);
            for (int level = 0; s < x.stacks() && level <= x.heightOf(s); level++) {
                reading.ask("containerAt", s, level);
            }
        }
        for (int e = 0; e <= x.events(); e += 1 + x.events() / 12) {
            reading.askEach(e, "timeOf", "kindOf", "containerOf");
        }
        for (int s = 0; s <= 16; s++) {
            reading.ask("inSlot", s);
        }
        for (int i = 0; i <= 3; i++) {
            reading.ask("costIf", 5 * i, 2 * i);
            reading.ask("inTheEnd", i);
            reading.ask("cranesAt", 2 * i);
            reading.ask("vesselAt", 3 * i, i);
        }
        return reading.told;
    }

    private void askOfVessel(int v) {
        askEach(v, "orderAt", "startOf", "placeOf", "ranges", "load", "handling", "waits");
        ask("firstBay", v, 1);
        for (int b = 0; b <= 1; b++) {
            ask("work", v, b);
            ask("beginOf", v, b);
            ask("endOf", v, b);
        }
        ask("delayIf", v, 30);
    }

    /**
     * Tells what the reading calls do not: a number that is set tells the one before, and what is planned, given and
     * worked off anew hangs on the rest. The object is another one then.
     */
    static List<String> hidden(Stevedore x) {
        Reading reading = new Reading(x);
        for (int v = 0; v < x.vessels(); v++) {
            reading.ask("delayIf", v, 0);
        }
        reading.workAnew();
        reading.ask("setQuay", 10);
        reading.ask("setCranes", 3);
        for (int v = 0; v < x.vessels(); v++) {
            reading.ask("setVessel", v, 0, 1);
        }
        for (int c = 0; c < x.containers(); c++) {
            reading.ask("setWish", c, 3 + c % 5);
        }
        for (int s = 0; s < 16; s++) {
            reading.ask("setRoom", s, 6);
        }
        reading.workAnew();
        reading.ask("addVessel", 0, 1, 1, 1);
        reading.ask("addContainer", 0, 0, 0, 40, 5);
        reading.ask("addStack", 5);
        reading.workAnew();
        return reading.told;
    }

    private void workAnew() {
        ask("plan");
        ask("giveSlots");
        ask("work", Integer.MAX_VALUE);
        ask("digest");
    }

    private void askEach(int number, String... names) {
        for (String name : names) {
            ask(name, number);
        }
    }

    private void ask(String name, int... numbers) {
        StringBuilder call = new StringBuilder(name);
        for (int number : numbers) {
            call.append(' ').append(number);
        }
        told.add(call + " = " + Runs.answer(Calls.FACE, object, call.toString()));
    }
}
