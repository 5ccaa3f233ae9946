import java.math.BigInteger;
import java.util.List;

/** The edges of promise 50, a sentence each: the checksum of numbers that are written out here. */
public final class EdgesOfDigestTest {
    private static final Check CHECK = new Check("EdgesOfDigestTest");
    private static final BigInteger ROUND = BigInteger.ONE.shiftLeft(64);
    private static final String VESSEL = "addVessel 0 1 1 1; ";
    private static final int[] OF_VESSEL = {1, 0, 1, 1, 0, 0, 0, 1};

    public static void main(String[] args) {
        nothing();
        whatThereIs();
        onlyWithPlan();
        onlyWithSlots();
        yard();
        lessThanZero();
        wrapsAround();
        changesNothing();
        CHECK.end();
    }

    /** The digest has to be that of the numbers, in their order. */
    private static void holds(String sentence, String calls, int[]... numbers) {
        Stevedore x = new Stevedore();
        Runs.make(Calls.FACE, x, calls);
        CHECK.same("50: " + sentence, wrapped(whole(numbers)).longValueExact(), x.digest());
        CHECK.same("50: " + sentence + ", asked again", wrapped(whole(numbers)).longValueExact(), x.digest());
    }

    private static BigInteger whole(int[]... numbers) {
        BigInteger d = BigInteger.valueOf(58024);
        for (int[] some : numbers) {
            for (int number : some) {
                d = d.multiply(BigInteger.valueOf(31)).add(BigInteger.valueOf(number));
            }
        }
        return d;
    }

    /** Among the numbers from -2^63 up to 2^63, not counted, the one that differs from it by rounds of 2^64. */
    private static BigInteger wrapped(BigInteger d) {
        BigInteger rest = d.mod(ROUND);
        return rest.testBit(63) ? rest.subtract(ROUND) : rest;
    }

    private static int[] list(int... numbers) {
        return numbers;
    }

    private static void nothing() {
        holds("nothing there yet", "", list(0, 0, 0), list(0), list(0), list(0, 0));
        holds("what is set does not count", "setQuay 4; setCranes 6; setRoom 15 6", list(0, 0, 0), list(0), list(0),
                list(0, 0));
    }

    private static void whatThereIs() {
        holds("a vessel", VESSEL, list(1, 0, 0), OF_VESSEL, list(0, 0, 0, 0));
        holds("a stack", "addStack 5", list(0, 0, 1), list(0, 0), list(0), list(0, 0));
        holds("a container, without a plan", VESSEL + "addContainer 0 0 import 1 1",
                list(1, 1, 0), list(1, 0, 2, 2, 0, 2, 0, 2), list(0, 0), list(0, -1), list(0, 0));
        holds("ranges and bays", "addVessel 400 3 9 2",
                list(1, 0, 0), list(2, 0, 1, 3, 3, 1), list(0, 1, 2, 0, 0, 1, 0, 2, 3), list(0, 0, 0, 0));
        holds("the most vessels and stacks", "6 x addVessel 0 1 1 1; 12 x addStack 1", list(6, 0, 12), OF_VESSEL,
                OF_VESSEL,
                OF_VESSEL, OF_VESSEL, OF_VESSEL, OF_VESSEL, list(0, 0), new int[12], list(0, 0));
    }

    private static void onlyWithPlan() {
        holds("a plan", VESSEL + "plan", list(1, 0, 0), OF_VESSEL, list(1, 0, 0, 0), list(0, 0, 0));
        holds("the order and where they lie", "setCranes 1; addVessel 0 1 1 1; addVessel 0 1 9 1; plan",
                list(2, 0, 0), OF_VESSEL, OF_VESSEL, list(1, 1, 0, 1, 0, 0, 0), list(0, 0, 0));
        holds("START and PLACE of one vessel, then of the next one",
                "addVessel 7 1 1 1; addVessel 7 1 1 1; addVessel 9 1 1 1; plan", list(3, 0, 0), OF_VESSEL, OF_VESSEL,
                OF_VESSEL, list(1, 0, 1, 2), list(7, 0, 7, 2, 9, 0), list(0, 0, 0));
        holds("a plan with a container", VESSEL + "addContainer 0 0 export 1 1; plan", list(1, 1, 0),
                list(1, 0, 2, 2, 0, 2, 0, 2), list(1, 0, 0, 0), list(2), list(0), list(0, -1), list(0, 0));
        holds("a plan that is gone", VESSEL + "plan; setCranes 3", list(1, 0, 0), OF_VESSEL, list(0, 0, 0, 0));
        holds("no plan, as one cannot be planned", "addVessel 0 1 1 4; plan", list(1, 0, 0), OF_VESSEL,
                list(0, 0, 0, 0));
    }

    private static void onlyWithSlots() {
        String one = VESSEL + "addContainer 0 0 import 1 1; plan; giveSlots; ";
        int[] vessel = {1, 0, 2, 2, 0, 2, 0, 2};
        int[] plan = {1, 0, 0, 0, 2};
        int[] events = {2, 2, 0, 0, 20, 3, 0};
        holds("slots", one, list(1, 1, 0), vessel, plan, list(1), events, list(0, -1), list(0, 0));
        holds("slots that are gone", one + "setWish 0 1", list(1, 1, 0), vessel, plan, list(0), list(0, -1),
                list(0, 0));
        holds("turned away", one + "work 1", list(1, 1, 0), vessel, plan, list(1), events, list(3, -1), list(0, 0));
        holds("slots, but no container", VESSEL + "plan; giveSlots", list(1, 0, 0), OF_VESSEL, list(1, 0, 0, 0),
                list(0, 0, 0));
    }

    private static void yard() {
        String two = VESSEL + "addStack 2; addContainer 0 0 import 1 3; addContainer 0 0 import 1 9; plan; giveSlots; ";
        int[] vessel = {1, 0, 4, 4, 0, 4, 0, 4};
        int[] events = {4, 2, 0, 0, 4, 0, 1, 60, 3, 0, 180, 3, 1};
        int[] plan = {1, 0, 0, 0, 2, 4};
        int[] slots = {3, 9};
        holds("none in the yard", two, list(1, 2, 1), vessel, plan, slots, events, list(0, -1, 0, -1), list(0),
                list(0, 0));
        holds("two in the yard", two + "work 2", list(1, 2, 1), vessel, plan, slots, events,
                list(1, 0, 1, 0), list(2, 0, 1), list(0, 1));
        holds("one missed", two + "work 3", list(1, 2, 1), vessel, plan, slots, events,
                list(4, 0, 1, 0), list(2, 0, 1), list(0, 1));
        holds("one gone", two + "work 4", list(1, 2, 1), vessel, plan, slots, events,
                list(4, 0, 2, -1), list(1, 0), list(0, 0));
    }

    private static void lessThanZero() {
        holds("no slot counts -1",
                "addVessel 400 1 1 1; addContainer 0 0 export 1 1; setQuay 9; addContainer 0 0 import 1 1; "
                        + "plan; giveSlots",
                list(1, 2, 0), list(1, 0, 4, 4, 0, 4, 0, 4), list(1, 0, 400, 0), list(404, 402), list(1, -1),
                list(3, 20, 1, 0, 402, 0, 1, 402, 2, 0), list(0, -1, 0, -1), list(0, 0));
    }

    private static void wrapsAround() {
        int[] vessel = OF_VESSEL;
        BigInteger five = whole(list(5, 0, 0), vessel, vessel, vessel, vessel, vessel, list(0, 0, 0, 0));
        CHECK.holds("50: far beyond 64 bits", five.bitLength() > 200);
        holds("wraps around", "5 x addVessel 0 1 1 1", list(5, 0, 0), vessel, vessel, vessel, vessel, vessel,
                list(0, 0, 0, 0));
        boolean isAbove = false;
        boolean isBelow = false;
        for (int stacks = 3; stacks <= 12; stacks++) {
            int[] heights = new int[stacks];
            holds(stacks + " stacks", stacks + " x addStack 1", list(0, 0, stacks), list(0, 0), heights, list(0, 0));
            BigInteger whole = whole(list(0, 0, stacks), list(0, 0), heights, list(0, 0));
            CHECK.holds("50: more than 63 bits", whole.bitLength() > 63 || stacks < 4);
            isAbove = isAbove || wrapped(whole).signum() > 0 && whole.bitLength() > 63;
            isBelow = isBelow || wrapped(whole).signum() < 0;
        }
        CHECK.holds("50: wraps around to more and to less than 0", isAbove && isBelow);
    }

    private static void changesNothing() {
        Stevedore x = new Stevedore();
        Runs.make(Calls.FACE, x, VESSEL + "addStack 1; addContainer 0 0 import 1 1; plan; giveSlots; work 1");
        List<String> before = Reading.shown(x);
        x.digest();
        CHECK.holds("50: nothing is changed", before.equals(Reading.shown(x)));
    }
}
