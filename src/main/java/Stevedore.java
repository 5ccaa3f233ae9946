import java.util.Arrays;

/** A planner for a container terminal: cranes of vessels, berths, slots for trucks, and a yard of stacks. */
public final class Stevedore {
    private static final int MOST_VESSELS = 6;
    private static final int MOST_BAYS = 10;
    private static final int MOST_WANTED = 4;
    private static final int MOST_CONTAINERS = 24;
    private static final int MOST_STACKS = 12;
    private static final int MOST_HEIGHT = 5;
    private static final int LAST_ARRIVAL = 400;

    private static final int SLOTS = 16;
    /** Stands for having none; behind the slots, as none is later than all. */
    private static final int NO_SLOT = SLOTS;
    private static final int SLOT_TICKS = 20;
    private static final int MOST_ROOM = 6;
    private static final int COST_OF_NONE = 40;

    private static final int MOVE_TICKS = 2;
    /** So long ahead of its move an export is taken out of the yard, and its slot has to be over. */
    private static final int EXPORT_AHEAD = 2;

    private static final int KIND_IMPORT_MOVED = 0;
    private static final int KIND_EXPORT_COMES = 1;
    private static final int KIND_EXPORT_MOVED = 2;
    private static final int KIND_IMPORT_LEAVES = 3;

    private static final int STATE_NOT_COME = 0;
    private static final int STATE_STANDS = 1;
    private static final int STATE_GONE = 2;
    private static final int STATE_TURNED_AWAY = 3;
    private static final int STATE_MISSED = 4;

    private static final int LEAVING_OF_NONE = 1000;
    private static final int FIRST_OF_EMPTY = 2000;
    private static final int LIGHTER_BY_MOST = 8;

    /** Above every cost, load and time that can come about, and far from where an int wraps around. */
    private static final int NEVER = 1000000;

    private static final long DIGEST_START = 58024L;

    private int quay;
    private int cranes;
    private int vesselCount;
    private final Vessel[] fleet;
    private final Cargo cargo;
    private final int[] room;
    private final CraneWalk craneWalk;
    private final BerthPlanner berthPlanner;
    private final Plan plan;
    private final SlotGiver slotGiver;
    private boolean hasSlots;
    private final int[] givenSlot;
    private final Agenda agenda;
    private final Yard yard;
    /** The yard in which is tried out what would be. */
    private final Yard trialYard;

    public Stevedore() {
        quay = 20;
        cranes = 3;
        fleet = new Vessel[MOST_VESSELS];
        for (int v = 0; v < MOST_VESSELS; v++) {
            fleet[v] = new Vessel();
        }
        cargo = new Cargo();
        room = new int[SLOTS];
        Arrays.fill(room, 2);
        craneWalk = new CraneWalk();
        berthPlanner = new BerthPlanner();
        plan = new Plan();
        slotGiver = new SlotGiver();
        givenSlot = new int[MOST_CONTAINERS];
        agenda = new Agenda();
        yard = new Yard();
        trialYard = new Yard();
    }

    // ---- what there is

    public int setQuay(int berths) throws IllegalArgumentException {
        needWithin(berths, 4, 60);
        int before = quay;
        quay = berths;
        forgetPlan();
        return before;
    }

    public int setCranes(int cranes) throws IllegalArgumentException {
        needWithin(cranes, 1, 6);
        int before = this.cranes;
        this.cranes = cranes;
        forgetPlan();
        return before;
    }

    public int addVessel(int arrival, int bays, int rank, int cranes)
            throws IllegalArgumentException, IllegalStateException {
        needWithin(arrival, 0, LAST_ARRIVAL);
        needWithin(bays, 1, MOST_BAYS);
        needWithin(rank, 1, 9);
        needWithin(cranes, 1, MOST_WANTED);
        if (vesselCount >= MOST_VESSELS) {
            throw new IllegalStateException("no more vessels");
        }
        Vessel added = fleet[vesselCount];
        added.arrival = arrival;
        added.bays = bays;
        added.rank = rank;
        added.wanted = cranes;
        craneWalk.settle(added);
        vesselCount++;
        forgetPlan();
        return vesselCount - 1;
    }

    public int setVessel(int vessel, int arrival, int cranes)
            throws IndexOutOfBoundsException, IllegalArgumentException {
        needVessel(vessel);
        needWithin(arrival, 0, LAST_ARRIVAL);
        needWithin(cranes, 1, MOST_WANTED);
        Vessel set = fleet[vessel];
        int before = set.arrival;
        set.arrival = arrival;
        set.wanted = cranes;
        craneWalk.settle(set);
        forgetPlan();
        return before;
    }

    public int addContainer(int vessel, int bay, boolean isExport, int weight, int wish)
            throws IndexOutOfBoundsException, IllegalArgumentException, IllegalStateException {
        needBay(vessel, bay);
        needWithin(weight, 1, 40);
        needWithin(wish, 0, SLOTS - 1);
        if (cargo.count >= MOST_CONTAINERS) {
            throw new IllegalStateException("no more containers");
        }
        int container = cargo.count;
        cargo.vessel[container] = vessel;
        cargo.bay[container] = bay;
        cargo.isExport[container] = isExport;
        cargo.weight[container] = weight;
        cargo.wish[container] = wish;
        cargo.count++;
        fleet[vessel].workOfBay[bay] += MOVE_TICKS;
        craneWalk.settle(fleet[vessel]);
        forgetPlan();
        return container;
    }

    public int setWish(int container, int wish) throws IndexOutOfBoundsException, IllegalArgumentException {
        needContainer(container);
        needWithin(wish, 0, SLOTS - 1);
        int before = cargo.wish[container];
        cargo.wish[container] = wish;
        forgetSlots();
        return before;
    }

    public int setRoom(int slot, int room) throws IndexOutOfBoundsException, IllegalArgumentException {
        needSlot(slot);
        needWithin(room, 0, MOST_ROOM);
        int before = this.room[slot];
        this.room[slot] = room;
        forgetSlots();
        return before;
    }

    public int addStack(int height) throws IllegalArgumentException, IllegalStateException {
        needWithin(height, 1, MOST_HEIGHT);
        if (yard.stackCount >= MOST_STACKS) {
            throw new IllegalStateException("no more stacks");
        }
        yard.limit[yard.stackCount] = height;
        yard.stackCount++;
        yard.empty();
        return yard.stackCount - 1;
    }

    public int vessels() {
        return vesselCount;
    }

    public int containers() {
        return cargo.count;
    }

    public int stacks() {
        return yard.stackCount;
    }

    // ---- cranes of a vessel (section 2)

    public int work(int vessel, int bay) throws IndexOutOfBoundsException {
        needBay(vessel, bay);
        return fleet[vessel].workOfBay[bay];
    }

    public int ranges(int vessel) throws IndexOutOfBoundsException {
        needVessel(vessel);
        return fleet[vessel].rangeCount;
    }

    public int firstBay(int vessel, int range) throws IndexOutOfBoundsException {
        needVessel(vessel);
        if (range < 0 || range >= fleet[vessel].rangeCount) {
            throw new IndexOutOfBoundsException("no such range");
        }
        return fleet[vessel].firstOfRange[range];
    }

    public int load(int vessel) throws IndexOutOfBoundsException {
        needVessel(vessel);
        return fleet[vessel].greatestLoad;
    }

    public int beginOf(int vessel, int bay) throws IndexOutOfBoundsException {
        needBay(vessel, bay);
        return fleet[vessel].begin[bay];
    }

    public int endOf(int vessel, int bay) throws IndexOutOfBoundsException {
        needBay(vessel, bay);
        return fleet[vessel].end(bay);
    }

    public int handling(int vessel) throws IndexOutOfBoundsException {
        needVessel(vessel);
        return fleet[vessel].handlingTicks;
    }

    public int waits(int vessel) throws IndexOutOfBoundsException {
        needVessel(vessel);
        return fleet[vessel].waitTicks;
    }

    // ---- berths (section 3)

    public int plan() throws IllegalStateException {
        needSomeVessel();
        berthPlanner.ask(fleet, vesselCount, quay, cranes);
        int delay = berthPlanner.leastDelay();
        if (delay >= 0) {
            plan.copyFrom(berthPlanner.best);
            plan.isMade = true;
            forgetSlots();
        }
        return delay;
    }

    public boolean isPlanned() {
        return plan.isMade;
    }

    public int orderAt(int place) throws IllegalStateException, IndexOutOfBoundsException {
        needPlan();
        if (place < 0 || place >= vesselCount) {
            throw new IndexOutOfBoundsException("no such place");
        }
        return plan.order[place];
    }

    public int startOf(int vessel) throws IllegalStateException, IndexOutOfBoundsException {
        needPlan();
        needVessel(vessel);
        return plan.start[vessel];
    }

    public int placeOf(int vessel) throws IllegalStateException, IndexOutOfBoundsException {
        needPlan();
        needVessel(vessel);
        return plan.place[vessel];
    }

    public int vesselAt(int berth, int time) throws IllegalStateException, IndexOutOfBoundsException {
        needPlan();
        if (berth < 0 || berth >= quay) {
            throw new IndexOutOfBoundsException("no such berth");
        }
        for (int v = 0; v < vesselCount; v++) {
            int behind = berth - plan.place[v];
            if (lies(v, time) && behind >= 0 && behind < fleet[v].bays) {
                return v;
            }
        }
        return -1;
    }

    public int cranesAt(int time) throws IllegalStateException {
        needPlan();
        int together = 0;
        for (int v = 0; v < vesselCount; v++) {
            if (lies(v, time)) {
                together += fleet[v].wanted;
            }
        }
        return together;
    }

    public int delayByNumbers() throws IllegalStateException {
        needSomeVessel();
        berthPlanner.ask(fleet, vesselCount, quay, cranes);
        return berthPlanner.delayByNumber();
    }

    public int delayIf(int vessel, int arrival) throws IndexOutOfBoundsException, IllegalArgumentException {
        needVessel(vessel);
        needWithin(arrival, 0, LAST_ARRIVAL);
        berthPlanner.ask(fleet, vesselCount, quay, cranes);
        berthPlanner.arrival[vessel] = arrival;
        return berthPlanner.leastDelay();
    }

    // ---- slots (section 4)

    public int movedAt(int container) throws IllegalStateException, IndexOutOfBoundsException {
        needPlan();
        needContainer(container);
        return moveTime(container);
    }

    public int giveSlots() throws IllegalStateException {
        needPlan();
        askForSlots();
        int cost = slotGiver.giveCheapest();
        slotGiver.giveEarliest();
        System.arraycopy(slotGiver.slot, 0, givenSlot, 0, cargo.count);
        hasSlots = true;
        fillAgenda();
        yard.empty();
        return cost;
    }

    public int slotOf(int container) throws IllegalStateException, IndexOutOfBoundsException {
        needSlots();
        needContainer(container);
        return givenSlot[container] == NO_SLOT ? -1 : givenSlot[container];
    }

    public int inSlot(int slot) throws IllegalStateException, IndexOutOfBoundsException {
        needSlots();
        needSlot(slot);
        int together = 0;
        for (int c = 0; c < cargo.count; c++) {
            if (givenSlot[c] == slot) {
                together++;
            }
        }
        return together;
    }

    public int costIf(int slot, int room)
            throws IllegalStateException, IndexOutOfBoundsException, IllegalArgumentException {
        needPlan();
        needSlot(slot);
        needWithin(room, 0, MOST_ROOM);
        askForSlots();
        slotGiver.room[slot] = room;
        return slotGiver.giveCheapest();
    }

    // ---- the yard (sections 5 and 6)

    public int events() {
        return agenda.count;
    }

    public int timeOf(int event) throws IndexOutOfBoundsException {
        needEvent(event);
        return agenda.time(event);
    }

    public int kindOf(int event) throws IndexOutOfBoundsException {
        needEvent(event);
        return agenda.kind(event);
    }

    public int containerOf(int event) throws IndexOutOfBoundsException {
        needEvent(event);
        return agenda.container(event);
    }

    public int work(int most) throws IllegalArgumentException, IllegalStateException {
        needNotNegative(most);
        needSlots();
        yard.workOff(agenda, most);
        return yard.workedOff;
    }

    public int stateOf(int container) throws IndexOutOfBoundsException {
        needContainer(container);
        return yard.state[container];
    }

    public int stackOf(int container) throws IndexOutOfBoundsException {
        needContainer(container);
        return yard.stackOfContainer[container];
    }

    public int heightOf(int stack) throws IndexOutOfBoundsException {
        needStack(stack);
        return yard.height[stack];
    }

    public int containerAt(int stack, int level) throws IndexOutOfBoundsException {
        needStack(stack);
        if (level < 0 || level >= yard.height[stack]) {
            throw new IndexOutOfBoundsException("no container there");
        }
        return yard.standing[stack][level];
    }

    public int reshuffles() {
        return yard.reshuffleCount;
    }

    public int blocking() {
        return yard.countBlocking();
    }

    public int wouldTake(int container) throws IndexOutOfBoundsException {
        needContainer(container);
        return yard.reshufflesToTake(container);
    }

    public int tidy(int most) throws IllegalArgumentException {
        needNotNegative(most);
        return yard.tidyUp(most);
    }

    public int inTheEnd(int what) throws IllegalArgumentException, IllegalStateException {
        needWithin(what, 0, 3);
        needSlots();
        trialYard.copyFrom(yard);
        trialYard.workOff(agenda, agenda.count);
        if (what == 0) {
            return trialYard.reshuffleCount;
        }
        if (what == 1) {
            return trialYard.countState(STATE_TURNED_AWAY);
        }
        if (what == 2) {
            return trialYard.countState(STATE_MISSED);
        }
        return trialYard.countState(STATE_STANDS) + trialYard.countState(STATE_MISSED);
    }

    public double meanWait() {
        if (!plan.isMade || vesselCount <= 0) {
            return 0.0;
        }
        int sum = 0;
        for (int v = 0; v < vesselCount; v++) {
            sum += plan.start[v] - fleet[v].arrival;
        }
        return (double) sum / (double) vesselCount;
    }

    public long digest() {
        long d = DIGEST_START;
        d = mixed(d, vesselCount);
        d = mixed(d, cargo.count);
        d = mixed(d, yard.stackCount);
        for (int v = 0; v < vesselCount; v++) {
            d = mixedVessel(d, fleet[v]);
        }
        d = mixedPlan(d);
        d = mixedSlots(d);
        d = mixedAgenda(d);
        return mixedYard(d);
    }

    // ---- parts of the checksum

    private static long mixed(long d, int x) {
        return d * 31L + x;
    }

    private static long mixedVessel(long start, Vessel vessel) {
        long d = mixed(start, vessel.rangeCount);
        for (int r = 0; r < vessel.rangeCount; r++) {
            d = mixed(d, vessel.firstOfRange[r]);
        }
        d = mixed(d, vessel.greatestLoad);
        d = mixed(d, vessel.handlingTicks);
        d = mixed(d, vessel.waitTicks);
        for (int b = 0; b < vessel.bays; b++) {
            d = mixed(d, vessel.workOfBay[b]);
            d = mixed(d, vessel.begin[b]);
            d = mixed(d, vessel.end(b));
        }
        return d;
    }

    private long mixedPlan(long start) {
        long d = mixed(start, plan.isMade ? 1 : 0);
        if (!plan.isMade) {
            return d;
        }
        for (int p = 0; p < vesselCount; p++) {
            d = mixed(d, plan.order[p]);
        }
        for (int v = 0; v < vesselCount; v++) {
            d = mixed(d, plan.start[v]);
            d = mixed(d, plan.place[v]);
        }
        for (int c = 0; c < cargo.count; c++) {
            d = mixed(d, moveTime(c));
        }
        return d;
    }

    private long mixedSlots(long start) {
        long d = start;
        if (!hasSlots) {
            return d;
        }
        for (int c = 0; c < cargo.count; c++) {
            d = mixed(d, givenSlot[c] == NO_SLOT ? -1 : givenSlot[c]);
        }
        return d;
    }

    private long mixedAgenda(long start) {
        long d = mixed(start, agenda.count);
        for (int e = 0; e < agenda.count; e++) {
            d = mixed(d, agenda.time(e));
            d = mixed(d, agenda.kind(e));
            d = mixed(d, agenda.container(e));
        }
        return d;
    }

    private long mixedYard(long start) {
        long d = start;
        for (int c = 0; c < cargo.count; c++) {
            d = mixed(d, yard.state[c]);
            d = mixed(d, yard.stackOfContainer[c]);
        }
        for (int s = 0; s < yard.stackCount; s++) {
            d = mixed(d, yard.height[s]);
            for (int level = 0; level < yard.height[s]; level++) {
                d = mixed(d, yard.standing[s][level]);
            }
        }
        d = mixed(d, yard.reshuffleCount);
        return mixed(d, yard.countBlocking());
    }

    // ---- what a call needs

    private static void needWithin(int value, int least, int most) {
        if (value < least || value > most) {
            throw new IllegalArgumentException("out of its bounds");
        }
    }

    private static void needNotNegative(int most) {
        if (most < 0) {
            throw new IllegalArgumentException("less than 0");
        }
    }

    private void needVessel(int vessel) {
        if (vessel < 0 || vessel >= vesselCount) {
            throw new IndexOutOfBoundsException("no such vessel");
        }
    }

    private void needBay(int vessel, int bay) {
        needVessel(vessel);
        if (bay < 0 || bay >= fleet[vessel].bays) {
            throw new IndexOutOfBoundsException("no such bay");
        }
    }

    private void needContainer(int container) {
        if (container < 0 || container >= cargo.count) {
            throw new IndexOutOfBoundsException("no such container");
        }
    }

    private static void needSlot(int slot) {
        if (slot < 0 || slot >= SLOTS) {
            throw new IndexOutOfBoundsException("no such slot");
        }
    }

    private void needStack(int stack) {
        if (stack < 0 || stack >= yard.stackCount) {
            throw new IndexOutOfBoundsException("no such stack");
        }
    }

    private void needEvent(int event) {
        if (event < 0 || event >= agenda.count) {
            throw new IndexOutOfBoundsException("no such event");
        }
    }

    private void needSomeVessel() {
        if (vesselCount <= 0) {
            throw new IllegalStateException("no vessel");
        }
    }

    private void needPlan() {
        if (!plan.isMade) {
            throw new IllegalStateException("no plan");
        }
    }

    private void needSlots() {
        if (!hasSlots) {
            throw new IllegalStateException("no slots were given");
        }
    }

    // ---- what comes of a change

    private void forgetPlan() {
        plan.isMade = false;
        forgetSlots();
    }

    private void forgetSlots() {
        hasSlots = false;
        agenda.count = 0;
        yard.empty();
    }

    // ---- plan and slots

    private boolean lies(int vessel, int time) {
        int start = plan.start[vessel];
        return time >= start && time < start + fleet[vessel].handlingTicks;
    }

    private int moveTime(int container) {
        int vessel = cargo.vessel[container];
        int begin = fleet[vessel].begin[cargo.bay[container]];
        return plan.start[vessel] + begin + MOVE_TICKS * cargo.turnInBay(container);
    }

    private void askForSlots() {
        slotGiver.count = cargo.count;
        System.arraycopy(room, 0, slotGiver.room, 0, SLOTS);
        for (int c = 0; c < cargo.count; c++) {
            int moved = moveTime(c);
            for (int s = 0; s < SLOTS; s++) {
                boolean can = cargo.isExport[c]
                        ? SLOT_TICKS * s + SLOT_TICKS <= moved - EXPORT_AHEAD
                        : SLOT_TICKS * s >= moved;
                slotGiver.cost[c][s] = can ? Math.abs(s - cargo.wish[c]) : NEVER;
            }
            slotGiver.cost[c][NO_SLOT] = COST_OF_NONE;
        }
    }

    private void fillAgenda() {
        agenda.count = 0;
        for (int c = 0; c < cargo.count; c++) {
            yard.weight[c] = cargo.weight[c];
            yard.leaving[c] = LEAVING_OF_NONE;
            if (cargo.isExport[c]) {
                addEventsOfExport(c);
            } else {
                addEventsOfImport(c);
            }
        }
    }

    private void addEventsOfImport(int container) {
        agenda.add(moveTime(container), KIND_IMPORT_MOVED, container);
        if (givenSlot[container] != NO_SLOT) {
            int truck = SLOT_TICKS * givenSlot[container];
            agenda.add(truck, KIND_IMPORT_LEAVES, container);
            yard.leaving[container] = truck;
        }
    }

    private void addEventsOfExport(int container) {
        if (givenSlot[container] != NO_SLOT) {
            int wanted = moveTime(container) - EXPORT_AHEAD;
            agenda.add(SLOT_TICKS * givenSlot[container], KIND_EXPORT_COMES, container);
            agenda.add(wanted, KIND_EXPORT_MOVED, container);
            yard.leaving[container] = wanted;
        }
    }

    /** A vessel, and how its cranes go over it. */
    private static final class Vessel {
        int arrival;
        int bays;
        int rank;
        int wanted;
        int rangeCount;
        int greatestLoad;
        int handlingTicks;
        int waitTicks;
        final int[] workOfBay;
        final int[] firstOfRange;
        final int[] begin;

        Vessel() {
            workOfBay = new int[MOST_BAYS];
            firstOfRange = new int[MOST_WANTED];
            begin = new int[MOST_BAYS];
        }

        /** How many ticks a crane does something in a bay; a bay without work takes one, too. */
        int ticksIn(int bay) {
            return Math.max(1, workOfBay[bay]);
        }

        int end(int bay) {
            return begin[bay] + ticksIn(bay);
        }

        int endOfRange(int range) {
            return range + 1 < rangeCount ? firstOfRange[range + 1] : bays;
        }
    }

    /** All containers, by numbers. */
    private static final class Cargo {
        int count;
        final int[] vessel;
        final int[] bay;
        final boolean[] isExport;
        final int[] weight;
        final int[] wish;

        Cargo() {
            vessel = new int[MOST_CONTAINERS];
            bay = new int[MOST_CONTAINERS];
            isExport = new boolean[MOST_CONTAINERS];
            weight = new int[MOST_CONTAINERS];
            wish = new int[MOST_CONTAINERS];
        }

        /** The how many-th one of its bay it is that is moved, from 1 on. */
        int turnInBay(int container) {
            int turn = 1;
            for (int c = 0; c < count; c++) {
                if (vessel[c] == vessel[container] && bay[c] == bay[container] && isMovedAhead(c, container)) {
                    turn++;
                }
            }
            return turn;
        }

        private boolean isMovedAhead(int one, int other) {
            if (isExport[one] != isExport[other]) {
                return isExport[other];
            }
            return one < other;
        }
    }

    /** Parts the bays of a vessel into ranges, and lets the cranes go over them. */
    private static final class CraneWalk {
        /** Far more ticks than 24 containers on 10 bays can take. */
        private static final int MOST_TICKS = 10000;

        /** By ranges and a first bay: the least greatest load, if the bays from there on are so many ranges. */
        final int[][] least;
        final int[] bayOfCrane;
        final boolean[] isInside;
        final int[] workLeft;

        CraneWalk() {
            least = new int[MOST_WANTED + 1][MOST_BAYS + 1];
            bayOfCrane = new int[MOST_WANTED];
            isInside = new boolean[MOST_WANTED];
            workLeft = new int[MOST_WANTED];
        }

        void settle(Vessel vessel) {
            findLeastLoads(vessel);
            chooseRangeCount(vessel);
            chooseRanges(vessel);
            walk(vessel);
        }

        private void findLeastLoads(Vessel vessel) {
            for (int b = 0; b <= vessel.bays; b++) {
                least[0][b] = b == vessel.bays ? 0 : NEVER;
            }
            for (int r = 1; r <= vessel.wanted; r++) {
                least[r][vessel.bays] = NEVER;
                for (int b = 0; b < vessel.bays; b++) {
                    least[r][b] = leastLoad(vessel, r, b);
                }
            }
        }

        private int leastLoad(Vessel vessel, int ranges, int first) {
            int found = NEVER;
            int load = -1;
            for (int b = first; b < vessel.bays; b++) {
                load += vessel.ticksIn(b) + 1;
                found = Math.min(found, Math.max(load, least[ranges - 1][b + 1]));
            }
            return found;
        }

        private void chooseRangeCount(Vessel vessel) {
            vessel.rangeCount = 1;
            for (int r = 2; r <= vessel.wanted; r++) {
                if (least[r][0] < least[vessel.rangeCount][0]) {
                    vessel.rangeCount = r;
                }
            }
            vessel.greatestLoad = least[vessel.rangeCount][0];
        }

        private void chooseRanges(Vessel vessel) {
            int first = 0;
            for (int r = 0; r < vessel.rangeCount; r++) {
                vessel.firstOfRange[r] = first;
                first = endOfShortest(vessel, first, vessel.rangeCount - r - 1);
            }
        }

        /**
         * The end of the shortest range from a bay on behind which the rest is good enough. One that is long enough
         * for that is there, and a shorter one has no greater load; so its own load need not be looked at.
         */
        private int endOfShortest(Vessel vessel, int first, int rangesBehind) {
            for (int end = first + 1; end < vessel.bays; end++) {
                if (least[rangesBehind][end] <= vessel.greatestLoad) {
                    return end;
                }
            }
            return vessel.bays;
        }

        private void walk(Vessel vessel) {
            vessel.handlingTicks = 0;
            vessel.waitTicks = 0;
            for (int r = 0; r < vessel.rangeCount; r++) {
                bayOfCrane[r] = vessel.firstOfRange[r];
                isInside[r] = false;
            }
            boolean isGoing = true;
            for (int tick = 0; isGoing && tick < MOST_TICKS; tick++) {
                isGoing = false;
                for (int r = vessel.rangeCount - 1; r >= 0; r--) {
                    if (bayOfCrane[r] < vessel.endOfRange(r)) {
                        step(vessel, r, tick);
                        isGoing = true;
                    }
                }
            }
        }

        private void step(Vessel vessel, int range, int tick) {
            int bay = bayOfCrane[range];
            if (isInside[range]) {
                if (workLeft[range] > 0) {
                    workLeft[range]--;
                } else {
                    isInside[range] = false;
                    bayOfCrane[range]++;
                }
            } else if (isBarred(vessel, range)) {
                vessel.waitTicks++;
            } else {
                isInside[range] = true;
                workLeft[range] = Math.max(0, vessel.workOfBay[bay] - 1);
                vessel.begin[bay] = tick;
                vessel.handlingTicks = Math.max(vessel.handlingTicks, vessel.end(bay));
            }
        }

        private boolean isBarred(Vessel vessel, int range) {
            int next = range + 1;
            return next < vessel.rangeCount && isInside[next] && bayOfCrane[next] == bayOfCrane[range] + 1;
        }
    }

    /** Who lies where and from when on. */
    private static final class Plan {
        boolean isMade;
        final int[] order;
        final int[] start;
        final int[] place;

        Plan() {
            order = new int[MOST_VESSELS];
            start = new int[MOST_VESSELS];
            place = new int[MOST_VESSELS];
        }

        void copyFrom(Plan other) {
            System.arraycopy(other.order, 0, order, 0, MOST_VESSELS);
            System.arraycopy(other.start, 0, start, 0, MOST_VESSELS);
            System.arraycopy(other.place, 0, place, 0, MOST_VESSELS);
        }
    }

    /** Looks for the best order of the vessels; what is asked about is a copy, so that it can be altered. */
    private static final class BerthPlanner {
        int count;
        int quay;
        int cranes;
        final int[] arrival;
        final int[] handling;
        final int[] bays;
        final int[] rank;
        final int[] wanted;
        final Plan trial;
        /** By vessel: the end of its stay in the plan under trial. */
        final int[] until;
        final boolean[] isPut;
        final Plan best;
        int bestDelay;
        int bestLatest;

        BerthPlanner() {
            arrival = new int[MOST_VESSELS];
            handling = new int[MOST_VESSELS];
            bays = new int[MOST_VESSELS];
            rank = new int[MOST_VESSELS];
            wanted = new int[MOST_VESSELS];
            trial = new Plan();
            until = new int[MOST_VESSELS];
            isPut = new boolean[MOST_VESSELS];
            best = new Plan();
        }

        void ask(Vessel[] fleet, int vesselCount, int berths, int craneCount) {
            count = vesselCount;
            quay = berths;
            cranes = craneCount;
            for (int v = 0; v < count; v++) {
                arrival[v] = fleet[v].arrival;
                handling[v] = fleet[v].handlingTicks;
                bays[v] = fleet[v].bays;
                rank[v] = fleet[v].rank;
                wanted[v] = fleet[v].wanted;
            }
        }

        private boolean canPlan() {
            for (int v = 0; v < count; v++) {
                if (bays[v] > quay || wanted[v] > cranes) {
                    return false;
                }
            }
            return true;
        }

        /** The DELAY of the best order, which is kept; -1 if a vessel cannot be planned. */
        int leastDelay() {
            if (!canPlan()) {
                return -1;
            }
            bestDelay = NEVER;
            bestLatest = NEVER;
            // No order ends earlier than that: with it from the first step on, ties are given up at once.
            int latest = 0;
            for (int v = 0; v < count; v++) {
                isPut[v] = false;
                latest = Math.max(latest, arrival[v] + handling[v]);
            }
            tryOrders(this, 0, 0, latest);
            return bestDelay;
        }

        /** Orders come smallest first, so one that is only as good as the best so far is never taken. */
        private static void tryOrders(BerthPlanner planner, int depth, int delay, int latest) {
            if (depth > MOST_VESSELS || !planner.isBetter(delay, latest)) {
                return;
            }
            if (depth >= planner.count) {
                planner.keep(delay, latest);
                return;
            }
            for (int v = 0; v < planner.count; v++) {
                if (!planner.isPut[v]) {
                    planner.put(v, depth);
                    planner.isPut[v] = true;
                    int then = Math.max(latest, planner.until[v]);
                    tryOrders(planner, depth + 1, delay + planner.delayOf(v), then);
                    planner.isPut[v] = false;
                }
            }
        }

        private boolean isBetter(int delay, int latest) {
            return delay < bestDelay || delay == bestDelay && latest < bestLatest;
        }

        private void keep(int delay, int latest) {
            bestDelay = delay;
            bestLatest = latest;
            best.copyFrom(trial);
        }

        int delayByNumber() {
            if (!canPlan()) {
                return -1;
            }
            int delay = 0;
            for (int v = 0; v < count; v++) {
                put(v, v);
                delay += delayOf(v);
            }
            return delay;
        }

        private int delayOf(int vessel) {
            return rank[vessel] * (trial.start[vessel] - arrival[vessel]);
        }

        /** Gives a vessel the next place in the order. It can start earliest as it arrives or as another one ends. */
        private void put(int vessel, int ahead) {
            trial.order[ahead] = vessel;
            int time = arrival[vessel];
            int place = firstPlace(vessel, time, ahead);
            for (int i = 0; i < ahead && place < 0; i++) {
                time = nextEnd(time, ahead);
                place = firstPlace(vessel, time, ahead);
            }
            trial.start[vessel] = time;
            trial.place[vessel] = place;
            until[vessel] = time + handling[vessel];
        }

        private int nextEnd(int time, int ahead) {
            int next = NEVER;
            for (int i = 0; i < ahead; i++) {
                int end = until[trial.order[i]];
                if (end > time) {
                    next = Math.min(next, end);
                }
            }
            return next;
        }

        /** The smallest PLACE of a vessel that starts at a time; -1 if there is none. */
        private int firstPlace(int vessel, int time, int ahead) {
            if (!haveCranesFor(vessel, time, ahead)) {
                return -1;
            }
            int place = 0;
            // Each one ahead can push it on once.
            for (int i = 0; i <= ahead && place + bays[vessel] <= quay; i++) {
                int behind = placeBehindConflict(vessel, time, place, ahead);
                if (behind < 0) {
                    return place;
                }
                place = behind;
            }
            return -1;
        }

        private int placeBehindConflict(int vessel, int time, int place, int ahead) {
            for (int i = 0; i < ahead; i++) {
                int other = trial.order[i];
                int behindOther = trial.place[other] + bays[other];
                boolean isApart = place + bays[vessel] < trial.place[other] || behindOther < place;
                if (!isApart && isMeeting(vessel, time, other)) {
                    return behindOther + 1;
                }
            }
            return -1;
        }

        private boolean isMeeting(int vessel, int time, int other) {
            return trial.start[other] < time + handling[vessel] && time < until[other];
        }

        /** The need is greatest as one of them starts, so only these times count. */
        private boolean haveCranesFor(int vessel, int time, int ahead) {
            int spare = cranes - wanted[vessel];
            if (wantedAt(time, ahead) > spare) {
                return false;
            }
            for (int i = 0; i < ahead; i++) {
                int start = trial.start[trial.order[i]];
                if (start > time && start < time + handling[vessel] && wantedAt(start, ahead) > spare) {
                    return false;
                }
            }
            return true;
        }

        private int wantedAt(int time, int ahead) {
            int together = 0;
            for (int i = 0; i < ahead; i++) {
                int other = trial.order[i];
                if (trial.start[other] <= time && time < until[other]) {
                    together += wanted[other];
                }
            }
            return together;
        }
    }

    /**
     * Gives slots so that they cost as little as can be. A container that comes in may push others on from slot
     * to slot; a way of such pushes goes from node to node: the slots, NO_SLOT, and SPARE.
     */
    private static final class SlotGiver {
        /** The node that stands for room that nobody has: a slot with room leads there, one with users from there. */
        private static final int SPARE = SLOTS + 1;
        private static final int NODES = SLOTS + 2;

        int count;
        final int[][] cost;
        final int[] room;
        final int[] used;
        final int[] slot;
        /** By node: what the cheapest way from there costs, which node is next on it, and who is pushed there. */
        final int[] wayCost;
        final int[] next;
        final int[] pushed;

        SlotGiver() {
            cost = new int[MOST_CONTAINERS][SLOTS + 1];
            room = new int[SLOTS + 1];
            room[NO_SLOT] = MOST_CONTAINERS;
            used = new int[SLOTS + 1];
            slot = new int[MOST_CONTAINERS];
            wayCost = new int[NODES];
            next = new int[NODES];
            pushed = new int[NODES];
        }

        /** Brings the containers in, the last one first, each on the cheapest way; returns what all cost. */
        int giveCheapest() {
            Arrays.fill(used, 0);
            for (int c = count - 1; c >= 0; c--) {
                bringIn(c, SPARE);
            }
            int sum = 0;
            for (int c = 0; c < count; c++) {
                sum += cost[c][slot[c]];
            }
            return sum;
        }

        /** Behind giveCheapest: container 0 gets as early a slot as goes at this cost, then container 1, and so on. */
        void giveEarliest() {
            for (int c = 0; c < count; c++) {
                int before = slot[c];
                bringIn(c, before);
                used[before]--;
            }
        }

        /** Puts a container into its earliest cheapest slot; only those with greater numbers are pushed on. */
        private void bringIn(int container, int goal) {
            findWays(goal, container + 1);
            int chosen = NO_SLOT;
            int least = NEVER;
            for (int s = 0; s <= NO_SLOT; s++) {
                boolean isOpen = cost[container][s] < NEVER && wayCost[s] < NEVER;
                if (isOpen && cost[container][s] + wayCost[s] < least) {
                    least = cost[container][s] + wayCost[s];
                    chosen = s;
                }
            }
            pushAlong(chosen, goal);
            slot[container] = chosen;
            used[chosen]++;
        }

        private void pushAlong(int from, int goal) {
            int node = from;
            for (int i = 0; i < NODES && node != goal; i++) {
                int then = next[node];
                if (pushed[node] >= 0) {
                    slot[pushed[node]] = then;
                    used[node]--;
                    used[then]++;
                }
                node = then;
            }
        }

        /** Finds the cheapest ways to a goal; no ring of pushes costs less than 0, as all so far cost least. */
        private void findWays(int goal, int firstPushed) {
            for (int n = 0; n < NODES; n++) {
                wayCost[n] = NEVER;
                next[n] = goal;
                pushed[n] = -1;
            }
            wayCost[goal] = 0;
            boolean isShorter = true;
            for (int i = 0; i < NODES && isShorter; i++) {
                isShorter = shortenOverSpare();
                for (int c = firstPushed; c < count; c++) {
                    isShorter = shortenByPush(c) || isShorter;
                }
            }
        }

        private boolean shortenOverSpare() {
            boolean isShorter = false;
            for (int s = 0; s <= NO_SLOT; s++) {
                if (used[s] < room[s]) {
                    isShorter = shorten(s, SPARE, wayCost[SPARE], -1) || isShorter;
                }
                if (used[s] > 0) {
                    isShorter = shorten(SPARE, s, wayCost[s], -1) || isShorter;
                }
            }
            return isShorter;
        }

        private boolean shortenByPush(int container) {
            boolean isShorter = false;
            int from = slot[container];
            for (int s = 0; s <= NO_SLOT; s++) {
                if (s != from && cost[container][s] < NEVER && wayCost[s] < NEVER) {
                    int together = cost[container][s] - cost[container][from] + wayCost[s];
                    isShorter = shorten(from, s, together, container) || isShorter;
                }
            }
            return isShorter;
        }

        private boolean shorten(int from, int to, int together, int container) {
            if (together >= wayCost[from]) {
                return false;
            }
            wayCost[from] = together;
            next[from] = to;
            pushed[from] = container;
            return true;
        }
    }

    /** The events in their order, each as one number that keeps it: time, then kind, then container. */
    private static final class Agenda {
        private static final int KINDS = 4;
        private static final int NUMBERS = 32;

        int count;
        final int[] key;

        Agenda() {
            key = new int[2 * MOST_CONTAINERS];
        }

        void add(int time, int kind, int container) {
            if (count >= key.length) {
                return;
            }
            int added = (time * KINDS + kind) * NUMBERS + container;
            int at = count;
            while (at > 0 && key[at - 1] > added) {
                key[at] = key[at - 1];
                at--;
            }
            key[at] = added;
            count++;
        }

        int time(int event) {
            return key[event] / (KINDS * NUMBERS);
        }

        int kind(int event) {
            return key[event] / NUMBERS % KINDS;
        }

        int container(int event) {
            return key[event] % NUMBERS;
        }
    }

    /** The stacks, and who stands on them. */
    private static final class Yard {
        int stackCount;
        int reshuffleCount;
        int workedOff;
        final int[] limit;
        final int[] height;
        final int[][] standing;
        final int[] weight;
        final int[] leaving;
        final int[] state;
        final int[] stackOfContainer;
        /** The stacks to which those above a container went, in their order. */
        final int[] wentTo;

        Yard() {
            limit = new int[MOST_STACKS];
            height = new int[MOST_STACKS];
            standing = new int[MOST_STACKS][MOST_HEIGHT];
            weight = new int[MOST_CONTAINERS];
            leaving = new int[MOST_CONTAINERS];
            state = new int[MOST_CONTAINERS];
            stackOfContainer = new int[MOST_CONTAINERS];
            wentTo = new int[MOST_HEIGHT];
            Arrays.fill(stackOfContainer, -1);
        }

        void empty() {
            reshuffleCount = 0;
            workedOff = 0;
            Arrays.fill(height, 0);
            Arrays.fill(state, STATE_NOT_COME);
            Arrays.fill(stackOfContainer, -1);
        }

        void copyFrom(Yard other) {
            stackCount = other.stackCount;
            reshuffleCount = other.reshuffleCount;
            workedOff = other.workedOff;
            System.arraycopy(other.limit, 0, limit, 0, MOST_STACKS);
            System.arraycopy(other.height, 0, height, 0, MOST_STACKS);
            for (int s = 0; s < stackCount; s++) {
                System.arraycopy(other.standing[s], 0, standing[s], 0, MOST_HEIGHT);
            }
            System.arraycopy(other.weight, 0, weight, 0, MOST_CONTAINERS);
            System.arraycopy(other.leaving, 0, leaving, 0, MOST_CONTAINERS);
            System.arraycopy(other.state, 0, state, 0, MOST_CONTAINERS);
            System.arraycopy(other.stackOfContainer, 0, stackOfContainer, 0, MOST_CONTAINERS);
        }

        int countState(int wanted) {
            int together = 0;
            for (int c = 0; c < MOST_CONTAINERS; c++) {
                if (state[c] == wanted) {
                    together++;
                }
            }
            return together;
        }

        void workOff(Agenda agenda, int most) {
            for (int i = 0; i < most && workedOff < agenda.count; i++) {
                int container = agenda.container(workedOff);
                int kind = agenda.kind(workedOff);
                if (kind == KIND_IMPORT_MOVED || kind == KIND_EXPORT_COMES) {
                    bringIn(container);
                } else {
                    takeOut(container);
                }
                workedOff++;
            }
        }

        private void bringIn(int container) {
            int stack = stackFor(container, -1);
            if (stack < 0) {
                state[container] = STATE_TURNED_AWAY;
            } else {
                state[container] = STATE_STANDS;
                putOn(container, stack);
            }
        }

        private void takeOut(int container) {
            if (!isStanding(container)) {
                return;
            }
            int moves = clearAbove(container);
            if (moves < 0) {
                state[container] = STATE_MISSED;
            } else {
                reshuffleCount += moves;
                lift(stackOfContainer[container]);
                state[container] = STATE_GONE;
            }
        }

        private boolean isStanding(int container) {
            return state[container] == STATE_STANDS || state[container] == STATE_MISSED;
        }

        int reshufflesToTake(int container) {
            if (!isStanding(container)) {
                return -2;
            }
            int moves = clearAbove(container);
            putBack(stackOfContainer[container], moves);
            return moves;
        }

        /** Moves those above a container away, and returns how many; -1, and all as it was, if one can go nowhere. */
        private int clearAbove(int container) {
            int stack = stackOfContainer[container];
            int moves = 0;
            while (moves < MOST_HEIGHT && uppermost(stack) != container) {
                int to = stackFor(uppermost(stack), stack);
                if (to < 0) {
                    putBack(stack, moves);
                    return -1;
                }
                putOn(lift(stack), to);
                wentTo[moves] = to;
                moves++;
            }
            return moves;
        }

        private void putBack(int stack, int moves) {
            for (int i = moves - 1; i >= 0; i--) {
                putOn(lift(wentTo[i]), stack);
            }
        }

        private void putOn(int container, int stack) {
            if (container < 0 || height[stack] >= MOST_HEIGHT) {
                return;
            }
            standing[stack][height[stack]] = container;
            height[stack]++;
            stackOfContainer[container] = stack;
        }

        private int lift(int stack) {
            int lifted = uppermost(stack);
            if (lifted >= 0) {
                height[stack]--;
                stackOfContainer[lifted] = -1;
            }
            return lifted;
        }

        /** The uppermost container of a stack; -1 if it is empty. */
        private int uppermost(int stack) {
            return height[stack] > 0 ? standing[stack][height[stack] - 1] : -1;
        }

        private boolean canStand(int container, int stack) {
            if (height[stack] >= limit[stack]) {
                return false;
            }
            return height[stack] == 0 || weight[uppermost(stack)] >= weight[container] - LIGHTER_BY_MOST;
        }

        /** The stack that section 6 tells, among all but one; -1 if there is none. */
        private int stackFor(int container, int except) {
            int chosen = -1;
            int firstOfChosen = 0;
            for (int s = 0; s < stackCount; s++) {
                if (s != except && canStand(container, s)) {
                    int first = firstBelow(s, height[s]);
                    if (chosen < 0 || isBetterFirst(first, firstOfChosen, leaving[container])) {
                        chosen = s;
                        firstOfChosen = first;
                    }
                }
            }
            return chosen;
        }

        private static boolean isBetterFirst(int first, int other, int leavingOfOwn) {
            if (first >= leavingOfOwn) {
                return other < leavingOfOwn || first < other;
            }
            return other < leavingOfOwn && first > other;
        }

        /** The least LEAVING of those below a level of a stack. */
        private int firstBelow(int stack, int level) {
            int first = FIRST_OF_EMPTY;
            for (int i = 0; i < level; i++) {
                first = Math.min(first, leaving[standing[stack][i]]);
            }
            return first;
        }

        private boolean isBlocking(int stack, int level) {
            return firstBelow(stack, level) < leaving[standing[stack][level]];
        }

        int countBlocking() {
            int together = 0;
            for (int s = 0; s < stackCount; s++) {
                for (int level = 1; level < height[s]; level++) {
                    if (isBlocking(s, level)) {
                        together++;
                    }
                }
            }
            return together;
        }

        /** Each move leaves one fewer that BLOCKS, so there are never more moves than containers. */
        int tidyUp(int most) {
            int moves = 0;
            while (moves < most && moves < MOST_CONTAINERS && makeHelpingMove()) {
                moves++;
            }
            reshuffleCount += moves;
            return moves;
        }

        /**
         * A move alters only whether the moved one BLOCKS. So the fewest BLOCK behind each move of one that
         * BLOCKS to where it does not, and the first such move, by stacks, is the one to make.
         */
        private boolean makeHelpingMove() {
            for (int from = 0; from < stackCount; from++) {
                if (height[from] > 1 && isBlocking(from, height[from] - 1)) {
                    int to = stackWithoutBlocking(uppermost(from), from);
                    if (to >= 0) {
                        putOn(lift(from), to);
                        return true;
                    }
                }
            }
            return false;
        }

        private int stackWithoutBlocking(int container, int except) {
            for (int s = 0; s < stackCount; s++) {
                boolean isFree = s != except && canStand(container, s);
                if (isFree && firstBelow(s, height[s]) >= leaving[container]) {
                    return s;
                }
            }
            return -1;
        }
    }
}
