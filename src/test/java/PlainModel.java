import java.util.ArrayList;
import java.util.Arrays;
import java.util.List;

/**
 * The document's words told in another way, as slow and as plain as can be: each answer is worked out anew, by
 * trying everything. RandomRunsTest holds the program against it.
 */
final class PlainModel {
    private static final int NONE = 16;

    private static final class Ship {
        int arrival;
        int bays;
        int rank;
        int cranes;
    }

    private static final class Box {
        int ship;
        int bay;
        boolean isExport;
        int weight;
        int wish;
    }

    /** Who lies where, by the order; start and place by numbers of vessels. */
    private static final class Berthing {
        List<Integer> order = new ArrayList<>();
        int[] start = new int[6];
        int[] place = new int[6];
        int delay;
        int latest;
    }

    /** The cranes' way over a vessel. */
    private static final class Going {
        List<Integer> sizes = new ArrayList<>();
        int load;
        int waits;
        int[] begin = new int[10];
        int[] end = new int[10];
        int handling;
    }

    private static final class Event {
        int time;
        int kind;
        int box;

        Event(int time, int kind, int box) {
            this.time = time;
            this.kind = kind;
            this.box = box;
        }

        boolean isAhead(Event other) {
            if (time != other.time) {
                return time < other.time;
            }
            if (kind != other.kind) {
                return kind < other.kind;
            }
            return box < other.box;
        }
    }

    private static final class Ground {
        List<List<Integer>> stacks = new ArrayList<>();
        int[] state = new int[24];
        int reshuffles;
        int worked;

        Ground copy() {
            Ground other = new Ground();
            for (List<Integer> stack : stacks) {
                other.stacks.add(new ArrayList<>(stack));
            }
            other.state = state.clone();
            other.reshuffles = reshuffles;
            other.worked = worked;
            return other;
        }
    }

    private int quay = 20;
    private int cranes = 3;
    private final List<Ship> ships = new ArrayList<>();
    private final List<Box> boxes = new ArrayList<>();
    private final List<Integer> heights = new ArrayList<>();
    private final int[] room = {2, 2, 2, 2, 2, 2, 2, 2, 2, 2, 2, 2, 2, 2, 2, 2};
    private Berthing berthing;
    private int[] slots;
    private List<Event> agenda = new ArrayList<>();
    private Ground ground = new Ground();

    // ---- what there is

    public int setQuay(int berths) {
        argument(berths >= 4 && berths <= 60);
        int before = quay;
        quay = berths;
        dropPlan();
        return before;
    }

    public int setCranes(int number) {
        argument(number >= 1 && number <= 6);
        int before = cranes;
        cranes = number;
        dropPlan();
        return before;
    }

    public int addVessel(int arrival, int bays, int rank, int wanted) {
        argument(arrival >= 0 && arrival <= 400 && bays >= 1 && bays <= 10);
        argument(rank >= 1 && rank <= 9 && wanted >= 1 && wanted <= 4);
        state(ships.size() < 6);
        Ship ship = new Ship();
        ship.arrival = arrival;
        ship.bays = bays;
        ship.rank = rank;
        ship.cranes = wanted;
        ships.add(ship);
        dropPlan();
        return ships.size() - 1;
    }

    public int setVessel(int vessel, int arrival, int wanted) {
        index(vessel, ships.size());
        argument(arrival >= 0 && arrival <= 400 && wanted >= 1 && wanted <= 4);
        int before = ships.get(vessel).arrival;
        ships.get(vessel).arrival = arrival;
        ships.get(vessel).cranes = wanted;
        dropPlan();
        return before;
    }

    public int addContainer(int vessel, int bay, boolean isExport, int weight, int wish) {
        index(vessel, ships.size());
        index(bay, ships.get(vessel).bays);
        argument(weight >= 1 && weight <= 40 && wish >= 0 && wish <= 15);
        state(boxes.size() < 24);
        Box box = new Box();
        box.ship = vessel;
        box.bay = bay;
        box.isExport = isExport;
        box.weight = weight;
        box.wish = wish;
        boxes.add(box);
        dropPlan();
        return boxes.size() - 1;
    }

    public int setWish(int container, int wish) {
        index(container, boxes.size());
        argument(wish >= 0 && wish <= 15);
        int before = boxes.get(container).wish;
        boxes.get(container).wish = wish;
        dropSlots();
        return before;
    }

    public int setRoom(int slot, int trucks) {
        index(slot, 16);
        argument(trucks >= 0 && trucks <= 6);
        int before = room[slot];
        room[slot] = trucks;
        dropSlots();
        return before;
    }

    public int addStack(int height) {
        argument(height >= 1 && height <= 5);
        state(heights.size() < 12);
        heights.add(height);
        clearGround();
        return heights.size() - 1;
    }

    public int vessels() {
        return ships.size();
    }

    public int containers() {
        return boxes.size();
    }

    public int stacks() {
        return heights.size();
    }

    // ---- cranes of a vessel

    public int work(int vessel, int bay) {
        index(vessel, ships.size());
        index(bay, ships.get(vessel).bays);
        int work = 0;
        for (Box box : boxes) {
            if (box.ship == vessel && box.bay == bay) {
                work += 2;
            }
        }
        return work;
    }

    public int ranges(int vessel) {
        return going(vessel).sizes.size();
    }

    public int firstBay(int vessel, int range) {
        List<Integer> sizes = going(vessel).sizes;
        index(range, sizes.size());
        int first = 0;
        for (int r = 0; r < range; r++) {
            first += sizes.get(r);
        }
        return first;
    }

    public int load(int vessel) {
        return going(vessel).load;
    }

    public int beginOf(int vessel, int bay) {
        work(vessel, bay);
        return going(vessel).begin[bay];
    }

    public int endOf(int vessel, int bay) {
        work(vessel, bay);
        return going(vessel).end[bay];
    }

    public int handling(int vessel) {
        return going(vessel).handling;
    }

    public int waits(int vessel) {
        return going(vessel).waits;
    }

    private Going going(int vessel) {
        index(vessel, ships.size());
        Going best = null;
        int bays = ships.get(vessel).bays;
        for (int cuts = 0; cuts < 1 << (bays - 1); cuts++) {
            Going tried = parted(vessel, cuts);
            if (tried.sizes.size() <= ships.get(vessel).cranes && (best == null || isBetter(tried, best))) {
                best = tried;
            }
        }
        letGo(vessel, best);
        return best;
    }

    /** A cut behind bay b, if bit b is set. */
    private Going parted(int vessel, int cuts) {
        Going tried = new Going();
        int size = 0;
        int load = 0;
        int bays = ships.get(vessel).bays;
        for (int b = 0; b < bays; b++) {
            load += work(vessel, b) + (work(vessel, b) == 0 ? 1 : 0) + (size > 0 ? 1 : 0);
            size++;
            if (b == bays - 1 || (cuts >> b & 1) == 1) {
                tried.sizes.add(size);
                tried.load = Math.max(tried.load, load);
                size = 0;
                load = 0;
            }
        }
        return tried;
    }

    private static boolean isBetter(Going one, Going other) {
        if (one.load != other.load) {
            return one.load < other.load;
        }
        if (one.sizes.size() != other.sizes.size()) {
            return one.sizes.size() < other.sizes.size();
        }
        for (int r = 0; r < one.sizes.size(); r++) {
            if (!one.sizes.get(r).equals(other.sizes.get(r))) {
                return one.sizes.get(r) < other.sizes.get(r);
            }
        }
        return false;
    }

    /** Cranes as texts: "ahead", "in" or "finished", each with its bay. */
    private void letGo(int vessel, Going going) {
        int n = going.sizes.size();
        String[] where = new String[n];
        int[] bay = new int[n];
        int[] left = new int[n];
        int[] last = new int[n];
        int first = 0;
        for (int r = 0; r < n; r++) {
            where[r] = "ahead";
            bay[r] = first;
            first += going.sizes.get(r);
            last[r] = first - 1;
        }
        int finished = 0;
        for (int tick = 0; finished < n; tick++) {
            for (int r = n - 1; r >= 0; r--) {
                if (where[r].equals("ahead")) {
                    boolean isShut = r + 1 < n && where[r + 1].equals("in") && bay[r + 1] == bay[r] + 1;
                    if (isShut) {
                        going.waits++;
                    } else {
                        where[r] = "in";
                        int work = work(vessel, bay[r]);
                        left[r] = work == 0 ? 0 : work - 1;
                        going.begin[bay[r]] = tick;
                        going.end[bay[r]] = tick + (work == 0 ? 1 : work);
                        going.handling = Math.max(going.handling, going.end[bay[r]]);
                    }
                } else if (where[r].equals("in") && left[r] > 0) {
                    left[r]--;
                } else if (where[r].equals("in")) {
                    boolean isLast = bay[r] == last[r];
                    where[r] = isLast ? "finished" : "ahead";
                    bay[r]++;
                    finished += isLast ? 1 : 0;
                }
            }
        }
    }

    // ---- berths

    public int plan() {
        state(!ships.isEmpty());
        Berthing best = bestBerthing(-1, 0);
        if (best == null) {
            return -1;
        }
        berthing = best;
        dropSlots();
        return best.delay;
    }

    public boolean isPlanned() {
        return berthing != null;
    }

    public int orderAt(int place) {
        state(berthing != null);
        index(place, ships.size());
        return berthing.order.get(place);
    }

    public int startOf(int vessel) {
        state(berthing != null);
        index(vessel, ships.size());
        return berthing.start[vessel];
    }

    public int placeOf(int vessel) {
        state(berthing != null);
        index(vessel, ships.size());
        return berthing.place[vessel];
    }

    public int vesselAt(int berth, int time) {
        state(berthing != null);
        index(berth, quay);
        for (int v = 0; v < ships.size(); v++) {
            boolean isThen = berthing.start[v] <= time && time < berthing.start[v] + handling(v);
            if (isThen && berthing.place[v] <= berth && berth < berthing.place[v] + ships.get(v).bays) {
                return v;
            }
        }
        return -1;
    }

    public int cranesAt(int time) {
        state(berthing != null);
        int sum = 0;
        for (int v = 0; v < ships.size(); v++) {
            if (berthing.start[v] <= time && time < berthing.start[v] + handling(v)) {
                sum += ships.get(v).cranes;
            }
        }
        return sum;
    }

    public int delayByNumbers() {
        state(!ships.isEmpty());
        if (!canBePlanned()) {
            return -1;
        }
        List<Integer> order = new ArrayList<>();
        for (int v = 0; v < ships.size(); v++) {
            order.add(v);
        }
        return berthed(order, arrivals(-1, 0), handlings()).delay;
    }

    public int delayIf(int vessel, int arrival) {
        index(vessel, ships.size());
        argument(arrival >= 0 && arrival <= 400);
        Berthing best = bestBerthing(vessel, arrival);
        return best == null ? -1 : best.delay;
    }

    private boolean canBePlanned() {
        for (Ship ship : ships) {
            if (ship.bays > quay || ship.cranes > cranes) {
                return false;
            }
        }
        return true;
    }

    private int[] arrivals(int vessel, int arrival) {
        int[] arrivals = new int[ships.size()];
        for (int v = 0; v < ships.size(); v++) {
            arrivals[v] = v == vessel ? arrival : ships.get(v).arrival;
        }
        return arrivals;
    }

    private int[] handlings() {
        int[] handlings = new int[ships.size()];
        for (int v = 0; v < ships.size(); v++) {
            handlings[v] = handling(v);
        }
        return handlings;
    }

    private Berthing bestBerthing(int vessel, int arrival) {
        if (!canBePlanned()) {
            return null;
        }
        List<List<Integer>> orders = new ArrayList<>();
        addOrders(new ArrayList<>(), orders);
        int[] arrivals = arrivals(vessel, arrival);
        int[] handlings = handlings();
        Berthing best = null;
        for (List<Integer> order : orders) {
            Berthing tried = berthed(order, arrivals, handlings);
            boolean isBetter = best == null || tried.delay < best.delay
                    || (tried.delay == best.delay && tried.latest < best.latest);
            if (isBetter) {
                best = tried;
            }
        }
        return best;
    }

    private void addOrders(List<Integer> begun, List<List<Integer>> orders) {
        if (begun.size() == ships.size()) {
            orders.add(new ArrayList<>(begun));
        }
        for (int v = 0; v < ships.size(); v++) {
            if (!begun.contains(v)) {
                begun.add(v);
                addOrders(begun, orders);
                begun.remove(begun.size() - 1);
            }
        }
    }

    /** Tick by tick: what berths are taken (with those right beside), and how many cranes are wanted. */
    private Berthing berthed(List<Integer> order, int[] arrivals, int[] handlings) {
        Berthing made = new Berthing();
        made.order = order;
        boolean[][] isShut = new boolean[1200][quay];
        int[] wanted = new int[1200];
        for (int v : order) {
            int start = arrivals[v];
            int place = place(v, start, handlings[v], isShut, wanted);
            while (place < 0) {
                start++;
                place = place(v, start, handlings[v], isShut, wanted);
            }
            made.start[v] = start;
            made.place[v] = place;
            made.delay += ships.get(v).rank * (start - arrivals[v]);
            made.latest = Math.max(made.latest, start + handlings[v]);
            for (int t = start; t < start + handlings[v]; t++) {
                wanted[t] += ships.get(v).cranes;
                for (int b = Math.max(0, place - 1); b < Math.min(quay, place + ships.get(v).bays + 1); b++) {
                    isShut[t][b] = true;
                }
            }
        }
        return made;
    }

    private int place(int vessel, int start, int handling, boolean[][] isShut, int[] wanted) {
        for (int t = start; t < start + handling; t++) {
            if (wanted[t] + ships.get(vessel).cranes > cranes) {
                return -1;
            }
        }
        int bays = ships.get(vessel).bays;
        for (int place = 0; place + bays <= quay; place++) {
            boolean isFree = true;
            for (int t = start; t < start + handling && isFree; t++) {
                for (int b = place; b < place + bays && isFree; b++) {
                    isFree = !isShut[t][b];
                }
            }
            if (isFree) {
                return place;
            }
        }
        return -1;
    }

    // ---- slots

    public int movedAt(int container) {
        state(berthing != null);
        index(container, boxes.size());
        Box box = boxes.get(container);
        List<Integer> turns = new ArrayList<>();
        for (int kind = 0; kind < 2; kind++) {
            for (int c = 0; c < boxes.size(); c++) {
                Box other = boxes.get(c);
                if (other.ship == box.ship && other.bay == box.bay && other.isExport == (kind == 1)) {
                    turns.add(c);
                }
            }
        }
        int k = turns.indexOf(container) + 1;
        return berthing.start[box.ship] + going(box.ship).begin[box.bay] + 2 * k;
    }

    public int giveSlots() {
        state(berthing != null);
        int[][] costs = costs();
        int cost = Assignment.leastCost(costs, room);
        for (int c = 0; c < boxes.size(); c++) {
            fixEarliest(costs, c, cost);
        }
        slots = new int[boxes.size()];
        for (int c = 0; c < boxes.size(); c++) {
            for (int s = 0; s <= NONE; s++) {
                if (costs[c][s] < Assignment.NEVER) {
                    slots[c] = s;
                }
            }
        }
        fillAgenda();
        clearGround();
        return cost;
    }

    /** Leaves a container only the earliest slot with which all still cost no more. */
    private void fixEarliest(int[][] costs, int box, int cost) {
        int[] all = costs[box];
        for (int s = 0; s <= NONE; s++) {
            costs[box] = new int[NONE + 1];
            Arrays.fill(costs[box], Assignment.NEVER);
            costs[box][s] = all[s];
            if (all[s] < Assignment.NEVER && Assignment.leastCost(costs, room) == cost) {
                return;
            }
        }
    }

    public int slotOf(int container) {
        state(slots != null);
        index(container, boxes.size());
        return slots[container] == NONE ? -1 : slots[container];
    }

    public int inSlot(int slot) {
        state(slots != null);
        index(slot, 16);
        int sum = 0;
        for (int given : slots) {
            sum += given == slot ? 1 : 0;
        }
        return sum;
    }

    public int costIf(int slot, int trucks) {
        state(berthing != null);
        index(slot, 16);
        argument(trucks >= 0 && trucks <= 6);
        int[] others = room.clone();
        others[slot] = trucks;
        return Assignment.leastCost(costs(), others);
    }

    private int[][] costs() {
        int[][] costs = new int[boxes.size()][NONE + 1];
        for (int c = 0; c < boxes.size(); c++) {
            int moved = movedAt(c);
            for (int s = 0; s < NONE; s++) {
                int begin = 20 * s;
                int end = begin + 20;
                boolean can = boxes.get(c).isExport ? moved - end >= 2 : begin >= moved;
                costs[c][s] = can ? Math.abs(s - boxes.get(c).wish) : Assignment.NEVER;
            }
            costs[c][NONE] = 40;
        }
        return costs;
    }

    // ---- the yard

    public int events() {
        return agenda.size();
    }

    public int timeOf(int event) {
        index(event, agenda.size());
        return agenda.get(event).time;
    }

    public int kindOf(int event) {
        index(event, agenda.size());
        return agenda.get(event).kind;
    }

    public int containerOf(int event) {
        index(event, agenda.size());
        return agenda.get(event).box;
    }

    public int work(int most) {
        argument(most >= 0);
        state(slots != null);
        for (int i = 0; i < most && ground.worked < agenda.size(); i++) {
            workOne(ground);
        }
        return ground.worked;
    }

    public int stateOf(int container) {
        index(container, boxes.size());
        return ground.state[container];
    }

    public int stackOf(int container) {
        index(container, boxes.size());
        return stackWith(ground, container);
    }

    public int heightOf(int stack) {
        index(stack, heights.size());
        return ground.stacks.get(stack).size();
    }

    public int containerAt(int stack, int level) {
        index(stack, heights.size());
        index(level, ground.stacks.get(stack).size());
        return ground.stacks.get(stack).get(level);
    }

    public int reshuffles() {
        return ground.reshuffles;
    }

    public int blocking() {
        return blocking(ground);
    }

    public int wouldTake(int container) {
        index(container, boxes.size());
        if (stackWith(ground, container) < 0) {
            return -2;
        }
        Ground tried = ground.copy();
        return takeOut(tried, container) ? tried.reshuffles - ground.reshuffles : -1;
    }

    public int tidy(int most) {
        argument(most >= 0);
        int made = 0;
        while (made < most) {
            Ground best = null;
            for (int from = 0; from < heights.size(); from++) {
                for (int to = 0; to < heights.size(); to++) {
                    Ground tried = movedUppermost(from, to);
                    if (tried != null && (best == null || blocking(tried) < blocking(best))) {
                        best = tried;
                    }
                }
            }
            if (best == null || blocking(best) >= blocking(ground)) {
                return made;
            }
            ground = best;
            ground.reshuffles++;
            made++;
        }
        return made;
    }

    private Ground movedUppermost(int from, int to) {
        List<Integer> stack = ground.stacks.get(from);
        if (from == to || stack.isEmpty() || !canStand(ground, stack.get(stack.size() - 1), to)) {
            return null;
        }
        Ground tried = ground.copy();
        tried.stacks.get(to).add(tried.stacks.get(from).remove(stack.size() - 1));
        return tried;
    }

    public int inTheEnd(int what) {
        argument(what >= 0 && what <= 3);
        state(slots != null);
        Ground end = ground.copy();
        while (end.worked < agenda.size()) {
            workOne(end);
        }
        int[] counts = new int[5];
        for (int c = 0; c < boxes.size(); c++) {
            counts[end.state[c]]++;
        }
        int[] answers = {end.reshuffles, counts[3], counts[4], counts[1] + counts[4]};
        return answers[what];
    }

    public double meanWait() {
        if (berthing == null) {
            return 0;
        }
        int sum = 0;
        for (int v = 0; v < ships.size(); v++) {
            sum += berthing.start[v] - ships.get(v).arrival;
        }
        return (double) sum / ships.size();
    }

    public long digest() {
        List<Long> all = new ArrayList<>();
        add(all, vessels(), containers(), stacks());
        for (int v = 0; v < vessels(); v++) {
            add(all, ranges(v));
            for (int r = 0; r < ranges(v); r++) {
                add(all, firstBay(v, r));
            }
            add(all, load(v), handling(v), waits(v));
            for (int b = 0; b < ships.get(v).bays; b++) {
                add(all, work(v, b), beginOf(v, b), endOf(v, b));
            }
        }
        add(all, isPlanned() ? 1 : 0);
        if (isPlanned()) {
            for (int p = 0; p < vessels(); p++) {
                add(all, orderAt(p));
            }
            for (int v = 0; v < vessels(); v++) {
                add(all, startOf(v), placeOf(v));
            }
            for (int c = 0; c < containers(); c++) {
                add(all, movedAt(c));
            }
        }
        for (int c = 0; slots != null && c < containers(); c++) {
            add(all, slotOf(c));
        }
        add(all, events());
        for (int e = 0; e < events(); e++) {
            add(all, timeOf(e), kindOf(e), containerOf(e));
        }
        for (int c = 0; c < containers(); c++) {
            add(all, stateOf(c), stackOf(c));
        }
        for (int s = 0; s < stacks(); s++) {
            add(all, heightOf(s));
            for (int level = 0; level < heightOf(s); level++) {
                add(all, containerAt(s, level));
            }
        }
        add(all, reshuffles(), blocking());
        long d = 58024;
        for (long x : all) {
            d = d * 31 + x;
        }
        return d;
    }

    private static void add(List<Long> all, int... numbers) {
        for (int number : numbers) {
            all.add((long) number);
        }
    }

    private void fillAgenda() {
        agenda = new ArrayList<>();
        for (int c = 0; c < boxes.size(); c++) {
            boolean hasSlot = slots[c] != NONE;
            if (!boxes.get(c).isExport) {
                insert(new Event(movedAt(c), 0, c));
            }
            if (boxes.get(c).isExport && hasSlot) {
                insert(new Event(20 * slots[c], 1, c));
                insert(new Event(movedAt(c) - 2, 2, c));
            }
            if (!boxes.get(c).isExport && hasSlot) {
                insert(new Event(20 * slots[c], 3, c));
            }
        }
    }

    private void insert(Event event) {
        int at = 0;
        while (at < agenda.size() && agenda.get(at).isAhead(event)) {
            at++;
        }
        agenda.add(at, event);
    }

    private int leaving(int box) {
        if (slots[box] == NONE) {
            return 1000;
        }
        int last = 0;
        for (Event event : agenda) {
            if (event.box == box) {
                last = event.time;
            }
        }
        return last;
    }

    private void workOne(Ground where) {
        Event event = agenda.get(where.worked);
        where.worked++;
        if (event.kind < 2) {
            int stack = stackTold(where, event.box, -1);
            where.state[event.box] = stack < 0 ? 3 : 1;
            if (stack >= 0) {
                where.stacks.get(stack).add(event.box);
            }
        } else if (where.state[event.box] != 3) {
            Ground tried = where.copy();
            if (takeOut(tried, event.box)) {
                where.stacks = tried.stacks;
                where.reshuffles = tried.reshuffles;
                where.state[event.box] = 2;
            } else {
                where.state[event.box] = 4;
            }
        }
    }

    /** False if it cannot be taken out; then the ground is left half done. */
    private boolean takeOut(Ground where, int box) {
        int from = stackWith(where, box);
        List<Integer> stack = where.stacks.get(from);
        while (stack.get(stack.size() - 1) != box) {
            int moved = stack.get(stack.size() - 1);
            int to = stackTold(where, moved, from);
            if (to < 0) {
                return false;
            }
            stack.remove(stack.size() - 1);
            where.stacks.get(to).add(moved);
            where.reshuffles++;
        }
        stack.remove(stack.size() - 1);
        return true;
    }

    private int stackTold(Ground where, int box, int except) {
        int tight = -1;
        int wide = -1;
        for (int s = 0; s < heights.size(); s++) {
            if (s != except && canStand(where, box, s)) {
                int first = first(where, s);
                if (first >= leaving(box) && (tight < 0 || first < first(where, tight))) {
                    tight = s;
                }
                if (wide < 0 || first > first(where, wide)) {
                    wide = s;
                }
            }
        }
        return tight >= 0 ? tight : wide;
    }

    private boolean canStand(Ground where, int box, int stack) {
        List<Integer> standing = where.stacks.get(stack);
        if (standing.size() >= heights.get(stack)) {
            return false;
        }
        if (standing.isEmpty()) {
            return true;
        }
        int lighterBy = boxes.get(box).weight - boxes.get(standing.get(standing.size() - 1)).weight;
        return lighterBy <= 8;
    }

    private int first(Ground where, int stack) {
        int first = 2000;
        for (int box : where.stacks.get(stack)) {
            first = Math.min(first, leaving(box));
        }
        return first;
    }

    private int stackWith(Ground where, int box) {
        for (int s = 0; s < where.stacks.size(); s++) {
            if (where.stacks.get(s).contains(box)) {
                return s;
            }
        }
        return -1;
    }

    private int blocking(Ground where) {
        int sum = 0;
        for (List<Integer> stack : where.stacks) {
            for (int i = 0; i < stack.size(); i++) {
                boolean isBlocking = false;
                for (int j = 0; j < i; j++) {
                    isBlocking |= leaving(stack.get(j)) < leaving(stack.get(i));
                }
                sum += isBlocking ? 1 : 0;
            }
        }
        return sum;
    }

    // ---- what is gone, and what is wrong

    private void dropPlan() {
        berthing = null;
        dropSlots();
    }

    private void dropSlots() {
        slots = null;
        agenda = new ArrayList<>();
        clearGround();
    }

    private void clearGround() {
        ground = new Ground();
        for (int s = 0; s < heights.size(); s++) {
            ground.stacks.add(new ArrayList<>());
        }
    }

    private static void argument(boolean isGood) {
        if (!isGood) {
            throw new IllegalArgumentException();
        }
    }

    private static void state(boolean isGood) {
        if (!isGood) {
            throw new IllegalStateException();
        }
    }

    private static void index(int index, int size) {
        if (index < 0 || index >= size) {
            throw new IndexOutOfBoundsException();
        }
    }
}
