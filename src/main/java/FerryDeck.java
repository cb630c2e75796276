/**
 * A ferry's deck for a day, as ../shared/DOC.md promises it. Refusals and FINDINGS are plain answers below 0, also where
 * the document speaks of failures, as LANGUAGE.md has none.
 */
public final class FerryDeck {
    public static final int NUMBER = -1;
    public static final int STATE = -2;
    public static final int MISSING = -3;
    public static final int TAKEN = -4;
    public static final int END = -5;
    public static final int HIGH = -6;
    public static final int ROOM = -7;
    public static final int BEHIND = -8;
    public static final int NEXT = -9;
    public static final int FULL = -10;
    public static final int LEAN = -11;
    public static final int PORTS = -12;
    public static final int STUCK = -13;
    public static final int LARGE = -14;
    public static final int NEVER = -15;
    public static final int DRAWS = -16;
    public static final int FOUND = -17;

    private static final int MOST_LANES = 20;
    private static final int MOST_PLACES = 40;
    private static final int MOST_LOADS = 400;
    private static final int MOST_PORTS = 12;
    private static final int MOST_ACTS = 100;
    private static final int MOST_STEPS = 200;
    private static final int MOST_KEPT = 2;
    private static final int MOST_PLANNED_LOADS = 6;
    private static final int MOST_PLANNED_LANES = 3;
    private static final int MOST_WEIGHT = 8_000_000;
    private static final int MOST_SIZE = 1000;
    private static final long MOST_LIMIT = 1_000_000_000_000L;

    private static final int NOTHING = -1;
    private static final int CHOCK = -2;

    private static final int CAR = 1;
    private static final int VAN = 2;
    private static final int COACH = 3;
    private static final int CART = 4;
    private static final int ANIMAL = 5;

    private static final int AT_QUAY = 0;
    private static final int ABOARD = 1;
    private static final int GONE = 2;

    private static final int FINDING_MISSING = 1;
    private static final int FINDING_BEYOND = 2;
    private static final int FINDING_SIZE = 3;
    private static final int FINDING_CAST = 4;
    private static final int FINDING_COPY = 5;
    private static final int FINDING_NONE = 6;

    private static final int NUMBERS_PER_STEP = 4;

    private final Ship now = new Ship();
    private final Planner planner = new Planner(now);
    /** Kept ships and the trial ship are large, so each is made when it is first needed and then used again. */
    private final Ship[] kept = new Ship[MOST_KEPT];
    private Ship trial;
    private final Reason reason = new Reason();
    private final Reason trialReason = new Reason();
    private final int[] sheetPlaces = new int[MOST_PLACES];
    private final int[] steps = new int[MOST_STEPS * NUMBERS_PER_STEP];
    private int stepCount;
    private final int[] findings = new int[FINDING_NONE + 1];
    /** 0 until drive() has refused something: no refusal is 0. */
    private int latestRefusal;

    public FerryDeck() {
    }

    // ---- the deck

    public int lane(int i, int length, int height, int offset, int ends) {
        if (!isLane(i)) {
            return NUMBER;
        }
        if (length < 0) {
            return finding(FINDING_SIZE);
        }
        if (!isWithin(length, 1, MOST_PLACES) || !isWithin(height, 1, MOST_SIZE)
                || !isWithin(offset, -MOST_SIZE, MOST_SIZE) || !isWithin(ends, 1, 3)) {
            return NUMBER;
        }
        if (!now.isAtQuay()) {
            return STATE;
        }
        if (now.lanes[i].holdsSomething()) {
            return TAKEN;
        }
        now.lanes[i].build(length, height, offset, ends);
        now.acts.clear();
        return 1;
    }

    public int miss(int i) {
        if (!isLane(i)) {
            return NUMBER;
        }
        if (!now.isAtQuay()) {
            return STATE;
        }
        if (!now.lanes[i].isThere()) {
            return MISSING;
        }
        if (now.lanes[i].holdsSomething()) {
            return TAKEN;
        }
        now.lanes[i].build(0, 0, 0, 0);
        now.acts.clear();
        return 1;
    }

    public int told(int i, int what) {
        if (!isWithin(what, 0, 4)) {
            return NUMBER;
        }
        if (!isLane(i)) {
            return finding(FINDING_BEYOND);
        }
        Lane lane = now.lanes[i];
        if (!lane.isThere()) {
            return finding(FINDING_MISSING);
        }
        switch (what) {
            case 0: return lane.length;
            case 1: return lane.height;
            case 2: return lane.offset;
            case 3: return lane.ends;
            default: return lane.loadsIn;
        }
    }

    public int chock(int lane, int place) {
        return now.chockAct(Acts.CHOCKED, lane, place);
    }

    public int lift(int lane, int place) {
        return now.chockAct(Acts.LIFTED, lane, place);
    }

    public int at(int lane, int place) {
        if (!isLane(lane)) {
            return finding(FINDING_BEYOND);
        }
        if (!now.lanes[lane].isThere()) {
            return finding(FINDING_MISSING);
        }
        if (!now.lanes[lane].hasPlace(place)) {
            return finding(FINDING_BEYOND);
        }
        return now.lanes[lane].cells[place];
    }

    public int kindAt(int lane, int place) {
        int what = at(lane, place);
        if (what == FOUND) {
            return FOUND;
        }
        if (!now.loads.has(what)) {
            return finding(FINDING_CAST);
        }
        return now.loads.kind[what];
    }

    public int copy(int lane, int from, int n) {
        if (!isLane(lane)) {
            return finding(FINDING_BEYOND);
        }
        if (!now.lanes[lane].isThere()) {
            return finding(FINDING_MISSING);
        }
        if (from < 0 || n < 0 || (long) from + n > now.lanes[lane].length || n > MOST_PLACES) {
            return finding(FINDING_COPY);
        }
        System.arraycopy(now.lanes[lane].cells, from, sheetPlaces, 0, n);
        return n;
    }

    public int sheet(int i) {
        if (!isWithin(i, 0, MOST_PLACES - 1)) {
            return finding(FINDING_BEYOND);
        }
        return sheetPlaces[i];
    }

    public int free(int lane, int end) {
        if (!isLane(lane) || !isEnd(end)) {
            return NUMBER;
        }
        if (!now.lanes[lane].isThere()) {
            return MISSING;
        }
        if (!now.lanes[lane].isOpen(end)) {
            return END;
        }
        return now.lanes[lane].way(end);
    }

    // ---- loads

    public int load(int kind, int height, int weight, int port, int drawer) {
        Loads loads = now.loads;
        if (!isWithin(kind, CAR, ANIMAL) || !isWithin(height, 1, MOST_SIZE) || !isWithin(weight, 0, MOST_WEIGHT)) {
            return NUMBER;
        }
        boolean drawn = isDrawnKind(kind);
        if (drawn ? !loads.has(drawer) : !isWithin(port, 0, MOST_PORTS - 1)) {
            return NUMBER;
        }
        if (drawn && (loads.kind[drawer] == ANIMAL || loads.draws[drawer] >= 0)) {
            return DRAWS;
        }
        if (drawn && loads.state[drawer] == GONE) {
            return TAKEN;
        }
        if (loads.count >= MOST_LOADS) {
            return FULL;
        }
        int number = loads.count;
        if (drawn) {
            loads.tell(kind, height, weight, loads.port[drawer], drawer);
            loads.draws[drawer] = number;
        } else {
            loads.tell(kind, height, weight, port, NOTHING);
        }
        return number;
    }

    public int of(int load, int what) {
        if (!isWithin(what, 0, 8)) {
            return NUMBER;
        }
        Loads loads = now.loads;
        if (!loads.has(load)) {
            return finding(FINDING_BEYOND);
        }
        switch (what) {
            case 0: return loads.kind[load];
            case 1: return spanOf(loads.kind[load]);
            case 2: return loads.tall[load];
            case 3: return loads.units[load];
            case 4: return loads.port[load];
            case 5: return loads.state[load];
            case 6: return loads.lane[load];
            case 7: return loads.place[load];
            default: return loads.draws[load];
        }
    }

    public int more(int load) {
        if (!now.loads.has(load)) {
            return finding(FINDING_BEYOND);
        }
        int kind = now.loads.kind[load];
        if (kind != VAN && kind != COACH) {
            return finding(FINDING_CAST);
        }
        return tallerBy(kind);
    }

    public int drawer(int load) {
        if (!now.loads.has(load)) {
            return finding(FINDING_BEYOND);
        }
        if (!isDrawnKind(now.loads.kind[load])) {
            return finding(FINDING_CAST);
        }
        return now.loads.drawer[load];
    }

    public int loads() {
        return now.loads.count;
    }

    public boolean near(int one, int two) {
        return one != two && now.loads.isAboard(one) && now.loads.isAboard(two) && now.loads.areNext(one, two);
    }

    // ---- at the quay

    public int drive(int load, int lane, int end) {
        int answer = now.driveIn(load, lane, end);
        if (answer < 0) {
            latestRefusal = answer;
        }
        return answer;
    }

    public int out(int load, int end) {
        return now.takeOut(load, end);
    }

    public int undo() {
        return now.undoLatest();
    }

    public int again() {
        return latestRefusal < 0 ? latestRefusal : finding(FINDING_NONE);
    }

    // ---- the day

    public int day(int ports, long limit) {
        if (!isWithin(ports, 1, MOST_PORTS) || limit < 0 || limit > MOST_LIMIT) {
            return NUMBER;
        }
        if (!now.isAtQuay()) {
            return STATE;
        }
        if (now.loads.countOf(ABOARD) > 0) {
            return TAKEN;
        }
        now.ports = ports;
        now.limit = limit;
        now.acts.clear();
        return 1;
    }

    public long lean(int leg) {
        return leg < now.firstPortAhead() || leg >= now.ports ? 0 : now.leanOf(leg);
    }

    public int sail() {
        return now.setSail(reason);
    }

    public long why(int what) {
        switch (what) {
            case 0: return reason.which;
            case 1: return reason.side;
            case 2: return reason.beyond;
            case 3: return reason.lane;
            default: return -1;
        }
    }

    public int arrive() {
        return now.comeToPort();
    }

    public int moved(int i) {
        return now.ashore.item(i);
    }

    public int left(int i) {
        return now.departed.item(i);
    }

    public int bound() {
        return now.countBound();
    }

    public int ship(int what) {
        switch (what) {
            case 0: return now.isAtQuay() ? 0 : 1;
            case 1: return now.nextPort;
            case 2: return now.ports;
            case 3: return now.loads.countOf(ABOARD);
            case 4: return now.loads.countOf(GONE);
            case 5: return now.movedInAll;
            case 6: return now.acts.size;
            case 7: return stepCount;
            case 8: return now.countLanes();
            default: return -1;
        }
    }

    // ---- plans

    public int least() {
        int refusal = now.refusalToPlan();
        return refusal < 0 ? refusal : planner.findLeast();
    }

    public int planned(int load, int what) {
        int i = now.plan.indexOf(load);
        if (i < 0 || !isWithin(what, 0, 1)) {
            return -1;
        }
        return what == 0 ? now.plan.lane[i] : now.plan.place[i];
    }

    public int stow() {
        int cost = least();
        if (cost >= 0) {
            now.standAsPlanned();
            now.acts.clear();
        }
        return cost;
    }

    // ---- told days, images

    public int step(int op, int a, int b, int c) {
        if (stepCount >= MOST_STEPS) {
            return FULL;
        }
        int first = stepCount * NUMBERS_PER_STEP;
        steps[first] = op;
        steps[first + 1] = a;
        steps[first + 2] = b;
        steps[first + 3] = c;
        stepCount++;
        return stepCount;
    }

    public int forget() {
        int were = stepCount;
        stepCount = 0;
        return were;
    }

    public int check() {
        if (stepCount == 0) {
            return 0;
        }
        if (trial == null) {
            trial = new Ship();
        }
        trial.take(now);
        for (int i = 0; i < stepCount; i++) {
            if (!isSo(trial, i * NUMBERS_PER_STEP)) {
                return i;
            }
        }
        return stepCount;
    }

    public boolean keep(int place) {
        if (!isWithin(place, 0, MOST_KEPT - 1)) {
            return false;
        }
        if (kept[place] == null) {
            kept[place] = new Ship();
        }
        kept[place].take(now);
        return true;
    }

    public boolean back(int place) {
        if (!isWithin(place, 0, MOST_KEPT - 1) || kept[place] == null) {
            return false;
        }
        now.take(kept[place]);
        return true;
    }

    public int found(int what) {
        return isWithin(what, 0, FINDING_NONE) ? findings[what] : -1;
    }

    // ---- helpers

    /** Place 0 of the findings has the latest one, the others have how many there were of each. */
    private int finding(int which) {
        findings[0] = which;
        findings[which]++;
        return FOUND;
    }

    private boolean isSo(Ship ship, int first) {
        int a = steps[first + 1];
        int b = steps[first + 2];
        int c = steps[first + 3];
        switch (steps[first]) {
            case 1: return ship.driveIn(a, b, c) >= 0;
            case 2: return ship.takeOut(a, b) == 1;
            case 3: return ship.setSail(trialReason) == 1;
            case 4: return a >= 0 && ship.comeToPort() == a;
            case 5: return b != -1 && ship.ashore.item(a) == b;
            case 6: return b != -1 && ship.departed.item(a) == b;
            case 7: return ship.undoLatest() == 1;
            default: return false;
        }
    }

    private static boolean isWithin(int number, int least, int most) {
        return number >= least && number <= most;
    }

    private static boolean isLane(int i) {
        return i >= 0 && i < MOST_LANES;
    }

    private static boolean isEnd(int end) {
        return end == 0 || end == 1;
    }

    private static boolean isDrawnKind(int kind) {
        return kind == CART || kind == ANIMAL;
    }

    private static int spanOf(int kind) {
        return kind == COACH ? 3 : 1;
    }

    private static int tallerBy(int kind) {
        return kind == VAN ? 10 : kind == COACH ? 20 : 0;
    }

    private static int unitsOf(int kind, int weight) {
        int whole = weight / 8;
        return kind == COACH ? 2 * whole : kind == ANIMAL ? whole + 1 : whole;
    }

    /** The kind that may not stand next to this one, or NOTHING. */
    private static int foeOf(int kind) {
        return kind == COACH ? ANIMAL : kind == ANIMAL ? COACH : NOTHING;
    }

    /** One lane; of length 0 it is MISSING. A cell holds what at() tells. */
    private static final class Lane {
        final int[] cells = new int[MOST_PLACES];
        int length;
        int height;
        int offset;
        int ends;
        int loadsIn;
        int chocksIn;

        void build(int newLength, int newHeight, int newOffset, int newEnds) {
            length = newLength;
            height = newHeight;
            offset = newOffset;
            ends = newEnds;
            loadsIn = 0;
            chocksIn = 0;
            for (int place = 0; place < MOST_PLACES; place++) {
                cells[place] = NOTHING;
            }
        }

        void take(Lane other) {
            System.arraycopy(other.cells, 0, cells, 0, MOST_PLACES);
            length = other.length;
            height = other.height;
            offset = other.offset;
            ends = other.ends;
            loadsIn = other.loadsIn;
            chocksIn = other.chocksIn;
        }

        boolean isThere() {
            return length > 0;
        }

        boolean holdsSomething() {
            return loadsIn > 0 || chocksIn > 0;
        }

        boolean hasPlace(int place) {
            return place >= 0 && place < length;
        }

        /** The bits of ENDS are the ends: 1 is end 0, 2 is end 1. */
        boolean isOpen(int end) {
            return (ends & (end == 0 ? 1 : 2)) != 0;
        }

        /** By which end a STOWING drives. */
        int entry() {
            return isOpen(0) ? 0 : 1;
        }

        int placeAt(int end, int depth) {
            return end == 0 ? depth : length - 1 - depth;
        }

        int cellAt(int place) {
            return place >= 0 && place < length ? cells[place] : NOTHING;
        }

        int way(int end) {
            int depth = 0;
            while (depth < length && cells[placeAt(end, depth)] == NOTHING) {
                depth++;
            }
            return depth;
        }

        /** The PLACE of a load that stands at the deepest places of a way. */
        int deepestPlace(int end, int way, int span) {
            return end == 0 ? way - span : length - way;
        }

        void fill(int place, int span, int what) {
            for (int i = Math.max(place, 0); i < place + span && i < length; i++) {
                cells[i] = what;
            }
        }

        void layChock(int place) {
            fill(place, 1, CHOCK);
            chocksIn++;
        }

        void liftChock(int place) {
            fill(place, 1, NOTHING);
            chocksIn--;
        }
    }

    /** The loads that were told, a row for each thing that is known of them. */
    private static final class Loads {
        final int[] kind = new int[MOST_LOADS];
        final int[] tall = new int[MOST_LOADS];
        final int[] units = new int[MOST_LOADS];
        final int[] port = new int[MOST_LOADS];
        final int[] drawer = new int[MOST_LOADS];
        final int[] draws = new int[MOST_LOADS];
        final int[] state = new int[MOST_LOADS];
        final int[] lane = new int[MOST_LOADS];
        final int[] place = new int[MOST_LOADS];
        int count;

        boolean has(int load) {
            return load >= 0 && load < count;
        }

        void tell(int itsKind, int height, int weight, int itsPort, int itsDrawer) {
            if (count >= MOST_LOADS) {
                return;
            }
            kind[count] = itsKind;
            tall[count] = height + tallerBy(itsKind);
            units[count] = unitsOf(itsKind, weight);
            port[count] = itsPort;
            drawer[count] = itsDrawer;
            draws[count] = NOTHING;
            state[count] = AT_QUAY;
            lane[count] = NOTHING;
            place[count] = NOTHING;
            count++;
        }

        void put(int load, int newState, int newLane, int newPlace) {
            state[load] = newState;
            lane[load] = newLane;
            place[load] = newPlace;
        }

        void take(Loads other) {
            count = other.count;
            System.arraycopy(other.kind, 0, kind, 0, count);
            System.arraycopy(other.tall, 0, tall, 0, count);
            System.arraycopy(other.units, 0, units, 0, count);
            System.arraycopy(other.port, 0, port, 0, count);
            System.arraycopy(other.drawer, 0, drawer, 0, count);
            System.arraycopy(other.draws, 0, draws, 0, count);
            System.arraycopy(other.state, 0, state, 0, count);
            System.arraycopy(other.lane, 0, lane, 0, count);
            System.arraycopy(other.place, 0, place, 0, count);
        }

        boolean isAboard(int load) {
            return has(load) && state[load] == ABOARD;
        }

        int countOf(int wanted) {
            int sum = 0;
            for (int i = 0; i < count; i++) {
                if (state[i] == wanted) {
                    sum++;
                }
            }
            return sum;
        }

        /** The place behind the last one of a load that is ABOARD. */
        int placeBehind(int load) {
            return place[load] + spanOf(kind[load]);
        }

        boolean areNext(int one, int two) {
            int apart = lane[one] - lane[two];
            if (apart == 0) {
                return placeBehind(one) == place[two] || placeBehind(two) == place[one];
            }
            return (apart == 1 || apart == -1) && place[one] < placeBehind(two) && place[two] < placeBehind(one);
        }
    }

    /** The latest acts that can be undone: a ring, so that the oldest one gives way. */
    private static final class Acts {
        static final int DRIVEN = 1;
        static final int TAKEN_OUT = 2;
        static final int CHOCKED = 3;
        static final int LIFTED = 4;

        final int[] what = new int[MOST_ACTS];
        final int[] load = new int[MOST_ACTS];
        final int[] lane = new int[MOST_ACTS];
        final int[] place = new int[MOST_ACTS];
        int size;
        int top;

        void clear() {
            size = 0;
            top = 0;
        }

        void push(int itsWhat, int itsLoad, int itsLane, int itsPlace) {
            what[top] = itsWhat;
            load[top] = itsLoad;
            lane[top] = itsLane;
            place[top] = itsPlace;
            top = top + 1 < MOST_ACTS ? top + 1 : 0;
            size = Math.min(size + 1, MOST_ACTS);
        }

        /** Takes the latest act off; answers where it is written. */
        int pop() {
            top = top > 0 ? top - 1 : MOST_ACTS - 1;
            size--;
            return top;
        }

        void take(Acts other) {
            System.arraycopy(other.what, 0, what, 0, MOST_ACTS);
            System.arraycopy(other.load, 0, load, 0, MOST_ACTS);
            System.arraycopy(other.lane, 0, lane, 0, MOST_ACTS);
            System.arraycopy(other.place, 0, place, 0, MOST_ACTS);
            size = other.size;
            top = other.top;
        }
    }

    /** Loads in the order in which something befell them. */
    private static final class Row {
        final int[] items = new int[MOST_LOADS];
        int size;

        void clear() {
            size = 0;
        }

        void add(int load) {
            if (size < MOST_LOADS) {
                items[size] = load;
                size++;
            }
        }

        int item(int i) {
            return i >= 0 && i < size ? items[i] : -1;
        }

        void take(Row other) {
            size = other.size;
            System.arraycopy(other.items, 0, items, 0, size);
        }
    }

    /** THE PLAN; of size 0 it is none. */
    private static final class Plan {
        final int[] load = new int[MOST_PLANNED_LOADS];
        final int[] lane = new int[MOST_PLANNED_LOADS];
        final int[] place = new int[MOST_PLANNED_LOADS];
        int size;

        int indexOf(int wanted) {
            for (int i = 0; i < size; i++) {
                if (load[i] == wanted) {
                    return i;
                }
            }
            return -1;
        }

        void take(Plan other) {
            System.arraycopy(other.load, 0, load, 0, MOST_PLANNED_LOADS);
            System.arraycopy(other.lane, 0, lane, 0, MOST_PLANNED_LOADS);
            System.arraycopy(other.place, 0, place, 0, MOST_PLANNED_LOADS);
            size = other.size;
        }
    }

    /** What why() tells of a sail(). */
    private static final class Reason {
        long which;
        long side;
        long beyond;
        long lane = -1;

        void set(long itsWhich, long itsSide, long itsBeyond, long itsLane) {
            which = itsWhich;
            side = itsSide;
            beyond = itsBeyond;
            lane = itsLane;
        }
    }

    /** How the LEAVERS of one lane get out at one port. */
    private static final class Gate {
        static final int NO_LEAVERS = -1;
        static final int BLOCKED = -2;

        /** The end by which they leave, or one of the two constants. */
        int end;
        int inTheWay;
        private int firstLeaver;
        private int lastLeaver;
        private int firstChock;
        private int lastChock;

        /**
         * Loads of lesser ports count as gone already: so later ports can be looked at without playing those ahead of
         * them, as what is MOVED comes back to where it stood.
         */
        void survey(Lane lane, Loads loads, int port) {
            end = NO_LEAVERS;
            inTheWay = 0;
            if (lane.loadsIn == 0) {
                return;
            }
            findMarks(lane, loads, port);
            if (firstLeaver < 0) {
                return;
            }
            end = BLOCKED;
            if (lane.isOpen(0) && firstChock > lastLeaver) {
                end = 0;
                inTheWay = countStaying(lane, loads, port, 0, lastLeaver);
            }
            if (lane.isOpen(1) && lastChock < firstLeaver) {
                int behind = countStaying(lane, loads, port, firstLeaver, lane.length);
                if (end == BLOCKED || behind < inTheWay) {
                    end = 1;
                    inTheWay = behind;
                }
            }
        }

        int deepestDepth(Lane lane) {
            return end == 0 ? lastLeaver : lane.length - 1 - firstLeaver;
        }

        private void findMarks(Lane lane, Loads loads, int port) {
            firstLeaver = -1;
            lastLeaver = -1;
            firstChock = lane.length;
            lastChock = -1;
            for (int place = 0; place < lane.length; place++) {
                int what = lane.cells[place];
                if (what == CHOCK) {
                    firstChock = Math.min(firstChock, place);
                    lastChock = place;
                } else if (loads.has(what) && loads.port[what] == port) {
                    firstLeaver = firstLeaver < 0 ? place : firstLeaver;
                    lastLeaver = place;
                }
            }
        }

        private int countStaying(Lane lane, Loads loads, int port, int from, int to) {
            int sum = 0;
            for (int place = from; place < to; place++) {
                int what = lane.cellAt(place);
                if (loads.has(what) && loads.port[what] > port && loads.place[what] == place) {
                    sum++;
                }
            }
            return sum;
        }
    }

    /** All that keep() keeps. */
    private static final class Ship {
        final Lane[] lanes = new Lane[MOST_LANES];
        final Loads loads = new Loads();
        final Acts acts = new Acts();
        final Plan plan = new Plan();
        final Row ashore = new Row();
        final Row departed = new Row();
        int movedInAll;
        int ports = 1;
        long limit = 1000;
        /** -1 at the QUAY. */
        int nextPort = -1;
        private final Gate gate = new Gate();

        Ship() {
            for (int i = 0; i < MOST_LANES; i++) {
                lanes[i] = new Lane();
            }
        }

        void take(Ship other) {
            for (int i = 0; i < MOST_LANES; i++) {
                lanes[i].take(other.lanes[i]);
            }
            loads.take(other.loads);
            acts.take(other.acts);
            plan.take(other.plan);
            ashore.take(other.ashore);
            departed.take(other.departed);
            movedInAll = other.movedInAll;
            ports = other.ports;
            limit = other.limit;
            nextPort = other.nextPort;
        }

        boolean isAtQuay() {
            return nextPort < 0;
        }

        int firstPortAhead() {
            return Math.max(nextPort, 0);
        }

        int countLanes() {
            int sum = 0;
            for (int i = 0; i < MOST_LANES; i++) {
                if (lanes[i].isThere()) {
                    sum++;
                }
            }
            return sum;
        }

        // -- at the quay

        /** CHOCKED lays a chock where nothing is, LIFTED takes one up. */
        int chockAct(int act, int lane, int place) {
            if (!isLane(lane)) {
                return NUMBER;
            }
            if (!isAtQuay()) {
                return STATE;
            }
            if (!lanes[lane].isThere()) {
                return MISSING;
            }
            if (!lanes[lane].hasPlace(place)) {
                return NUMBER;
            }
            if (lanes[lane].cells[place] != (act == Acts.CHOCKED ? NOTHING : CHOCK)) {
                return TAKEN;
            }
            if (act == Acts.CHOCKED) {
                lanes[lane].layChock(place);
            } else {
                lanes[lane].liftChock(place);
            }
            acts.push(act, NOTHING, lane, place);
            return 1;
        }

        int driveIn(int load, int lane, int end) {
            if (!loads.has(load) || !isLane(lane) || !isEnd(end)) {
                return NUMBER;
            }
            if (!isAtQuay()) {
                return STATE;
            }
            if (loads.state[load] != AT_QUAY) {
                return TAKEN;
            }
            int place = placeFor(load, lane, end);
            if (place >= 0) {
                stand(load, lane, place);
                acts.push(Acts.DRIVEN, load, lane, place);
            }
            return place;
        }

        private int placeFor(int load, int number, int end) {
            Lane lane = lanes[number];
            int span = spanOf(loads.kind[load]);
            if (!lane.isThere()) {
                return MISSING;
            }
            if (!lane.isOpen(end)) {
                return END;
            }
            if (loads.tall[load] > lane.height) {
                return HIGH;
            }
            int way = lane.way(end);
            if (way < span) {
                return ROOM;
            }
            if (isDrawnKind(loads.kind[load]) && lane.cellAt(lane.placeAt(end, way)) != loads.drawer[load]) {
                return BEHIND;
            }
            int place = lane.deepestPlace(end, way, span);
            return wouldMeetFoe(load, number, place) ? NEXT : place;
        }

        private boolean wouldMeetFoe(int load, int lane, int place) {
            int foe = foeOf(loads.kind[load]);
            if (foe == NOTHING) {
                return false;
            }
            int behind = place + spanOf(loads.kind[load]);
            if (isKindAt(foe, lane, place - 1) || isKindAt(foe, lane, behind)) {
                return true;
            }
            for (int i = place; i < behind; i++) {
                if (isKindAt(foe, lane - 1, i) || isKindAt(foe, lane + 1, i)) {
                    return true;
                }
            }
            return false;
        }

        private boolean isKindAt(int kind, int lane, int place) {
            int what = isLane(lane) ? lanes[lane].cellAt(place) : NOTHING;
            return loads.has(what) && loads.kind[what] == kind;
        }

        private void stand(int load, int lane, int place) {
            lanes[lane].fill(place, spanOf(loads.kind[load]), load);
            lanes[lane].loadsIn++;
            loads.put(load, ABOARD, lane, place);
        }

        private void takeAway(int load, int newState) {
            if (!loads.isAboard(load)) {
                return;
            }
            Lane lane = lanes[loads.lane[load]];
            lane.fill(loads.place[load], spanOf(loads.kind[load]), NOTHING);
            lane.loadsIn--;
            loads.put(load, newState, NOTHING, NOTHING);
        }

        int takeOut(int load, int end) {
            if (!loads.has(load) || !isEnd(end)) {
                return NUMBER;
            }
            if (!isAtQuay()) {
                return STATE;
            }
            if (loads.state[load] != ABOARD) {
                return TAKEN;
            }
            int lane = loads.lane[load];
            int place = loads.place[load];
            if (!lanes[lane].isOpen(end)) {
                return END;
            }
            int ahead = end == 0 ? place : lanes[lane].length - loads.placeBehind(load);
            if (lanes[lane].way(end) < ahead) {
                return ROOM;
            }
            if (loads.isAboard(loads.draws[load])) {
                return DRAWS;
            }
            takeAway(load, AT_QUAY);
            acts.push(Acts.TAKEN_OUT, load, lane, place);
            return 1;
        }

        int undoLatest() {
            if (!isAtQuay()) {
                return STATE;
            }
            if (acts.size == 0) {
                return NUMBER;
            }
            int i = acts.pop();
            switch (acts.what[i]) {
                case Acts.DRIVEN:
                    takeAway(acts.load[i], AT_QUAY);
                    break;
                case Acts.TAKEN_OUT:
                    stand(acts.load[i], acts.lane[i], acts.place[i]);
                    break;
                case Acts.CHOCKED:
                    lanes[acts.lane[i]].liftChock(acts.place[i]);
                    break;
                default:
                    lanes[acts.lane[i]].layChock(acts.place[i]);
                    break;
            }
            return 1;
        }

        // -- the day

        long leanOf(int leg) {
            long sum = 0;
            for (int i = 0; i < loads.count; i++) {
                if (loads.isAboard(i) && loads.port[i] >= leg) {
                    sum += (long) loads.units[i] * lanes[loads.lane[i]].offset;
                }
            }
            return sum;
        }

        int setSail(Reason reason) {
            reason.set(0, 0, 0, -1);
            if (!isAtQuay()) {
                return STATE;
            }
            if (findFarLoad(reason)) {
                return PORTS;
            }
            if (findLeaningLeg(reason)) {
                return LEAN;
            }
            if (findStuckPort(reason)) {
                return STUCK;
            }
            nextPort = 0;
            acts.clear();
            return 1;
        }

        private boolean findFarLoad(Reason reason) {
            for (int i = 0; i < loads.count; i++) {
                if (loads.isAboard(i) && loads.port[i] >= ports) {
                    reason.set(i, 0, 0, -1);
                    return true;
                }
            }
            return false;
        }

        private boolean findLeaningLeg(Reason reason) {
            for (int leg = 0; leg < ports; leg++) {
                long lean = leanOf(leg);
                if (lean > limit) {
                    reason.set(leg, 1, lean - limit, -1);
                    return true;
                }
                if (lean < -limit) {
                    reason.set(leg, -1, -limit - lean, -1);
                    return true;
                }
            }
            return false;
        }

        private boolean findStuckPort(Reason reason) {
            for (int port = 0; port < ports; port++) {
                for (int i = 0; i < MOST_LANES; i++) {
                    gate.survey(lanes[i], loads, port);
                    if (gate.end == Gate.BLOCKED) {
                        reason.set(port, 0, 0, i);
                        return true;
                    }
                }
            }
            return false;
        }

        int countBound() {
            int sum = 0;
            for (int port = firstPortAhead(); port < ports; port++) {
                for (int i = 0; i < MOST_LANES; i++) {
                    gate.survey(lanes[i], loads, port);
                    if (gate.end == Gate.BLOCKED) {
                        return STUCK;
                    }
                    sum += gate.inTheWay;
                }
            }
            return sum;
        }

        int comeToPort() {
            if (isAtQuay()) {
                return STATE;
            }
            ashore.clear();
            departed.clear();
            for (int i = 0; i < MOST_LANES; i++) {
                clearLane(lanes[i], nextPort);
            }
            movedInAll += ashore.size;
            nextPort = nextPort + 1 < ports ? nextPort + 1 : -1;
            return ashore.size;
        }

        private void clearLane(Lane lane, int port) {
            gate.survey(lane, loads, port);
            if (!isEnd(gate.end)) {
                return;
            }
            int deepest = gate.deepestDepth(lane);
            for (int depth = 0; depth <= deepest; depth++) {
                meet(lane, lane.placeAt(gate.end, depth), port);
            }
        }

        /** What is MOVED stays written where it stands, as it comes back there; it counts once, by its PLACE. */
        private void meet(Lane lane, int place, int port) {
            int load = lane.cellAt(place);
            if (!loads.has(load)) {
                return;
            }
            if (loads.port[load] == port) {
                departed.add(load);
                takeAway(load, GONE);
            } else if (loads.place[load] == place) {
                ashore.add(load);
            }
        }

        // -- plans

        int refusalToPlan() {
            if (!isAtQuay()) {
                return STATE;
            }
            if (loads.countOf(ABOARD) > 0 || hasChock()) {
                return TAKEN;
            }
            if (!isWithin(countLanes(), 1, MOST_PLANNED_LANES)
                    || !isWithin(loads.countOf(AT_QUAY), 1, MOST_PLANNED_LOADS)) {
                return LARGE;
            }
            for (int i = 0; i < loads.count; i++) {
                if (loads.state[i] == AT_QUAY && loads.port[i] >= ports) {
                    return PORTS;
                }
            }
            return 0;
        }

        private boolean hasChock() {
            for (int i = 0; i < MOST_LANES; i++) {
                if (lanes[i].chocksIn > 0) {
                    return true;
                }
            }
            return false;
        }

        void standAsPlanned() {
            for (int i = 0; i < plan.size; i++) {
                stand(plan.load[i], plan.lane[i], plan.place[i]);
            }
        }
    }

    /**
     * Finds LEAST among all STOWINGS. It drives on rows of its own, as the lanes fill without gaps and what is left
     * of drive()'s rules is little then. Loads and lanes are known by their index in 'number' and 'deck'.
     */
    private static final class Planner {
        private final Ship ship;
        private final int[] number = new int[MOST_PLANNED_LOADS];
        private final int[] byFallingPort = new int[MOST_PLANNED_LOADS];
        private final int[] deck = new int[MOST_PLANNED_LANES];
        /** The loads as they were driven; those of a lane begin at its 'start'. */
        private final int[] order = new int[MOST_PLANNED_LOADS];
        private final int[] start = new int[MOST_PLANNED_LANES];
        private final int[] room = new int[MOST_PLANNED_LANES];
        /** NOTHING while a load isn't driven. */
        private final int[] laneOf = new int[MOST_PLANNED_LOADS];
        private final int[] placeOf = new int[MOST_PLANNED_LOADS];
        private int loadCount;
        private int laneCount;
        private int bestCost;

        Planner(Ship itsShip) {
            ship = itsShip;
        }

        /** Only behind a refusalToPlan() that refuses nothing. */
        int findLeast() {
            gatherLanes();
            gatherLoads();
            ship.plan.size = 0;
            bestCost = Integer.MAX_VALUE;
            start[0] = 0;
            search(0, 0, 0);
            return ship.plan.size == 0 ? NEVER : bestCost;
        }

        private void gatherLanes() {
            laneCount = 0;
            for (int i = 0; i < MOST_LANES && laneCount < MOST_PLANNED_LANES; i++) {
                if (ship.lanes[i].isThere()) {
                    deck[laneCount] = i;
                    room[laneCount] = ship.lanes[i].length;
                    laneCount++;
                }
            }
        }

        private void gatherLoads() {
            loadCount = 0;
            for (int i = 0; i < ship.loads.count && loadCount < MOST_PLANNED_LOADS; i++) {
                if (ship.loads.state[i] == AT_QUAY) {
                    number[loadCount] = i;
                    laneOf[loadCount] = NOTHING;
                    sortIn(loadCount);
                    loadCount++;
                }
            }
        }

        private void sortIn(int load) {
            int at = load;
            while (at > 0 && port(byFallingPort[at - 1]) < port(load)) {
                byFallingPort[at] = byFallingPort[at - 1];
                at--;
            }
            byFallingPort[at] = load;
        }

        private int port(int load) {
            return ship.loads.port[number[load]];
        }

        private int kind(int load) {
            return ship.loads.kind[number[load]];
        }

        /** Each level drives one load more or goes on to the next lane, so there are at most nine levels. */
        private void search(int lane, int driven, int cost) {
            if (cost > bestCost || cost == bestCost && !canBeLower(lane)) {
                return;
            }
            for (int load = 0; load < loadCount; load++) {
                if (laneOf[load] == NOTHING && fits(load, lane, driven)) {
                    put(load, lane, driven);
                    search(lane, driven + 1, cost);
                    room[lane] += spanOf(kind(load));
                    laneOf[load] = NOTHING;
                }
            }
            if (lane + 1 < laneCount) {
                start[lane + 1] = driven;
                search(lane + 1, driven, cost + costOf(lane, driven));
            } else if (driven == loadCount) {
                weigh(cost + costOf(lane, driven));
            }
        }

        private boolean fits(int load, int lane, int driven) {
            Lane into = ship.lanes[deck[lane]];
            int kind = kind(load);
            if (ship.loads.tall[number[load]] > into.height || spanOf(kind) > room[lane]) {
                return false;
            }
            int ahead = driven > start[lane] ? order[driven - 1] : NOTHING;
            if (isDrawnKind(kind) && (ahead < 0 || number[ahead] != ship.loads.drawer[number[load]])) {
                return false;
            }
            int foe = foeOf(kind);
            if (foe == NOTHING) {
                return true;
            }
            if (ahead >= 0 && kind(ahead) == foe) {
                return false;
            }
            return lane == 0 || deck[lane] - deck[lane - 1] != 1 || !isBeside(foe, lane, placeFor(load, lane), kind);
        }

        private int placeFor(int load, int lane) {
            Lane into = ship.lanes[deck[lane]];
            return into.deepestPlace(into.entry(), room[lane], spanOf(kind(load)));
        }

        /** Whether a foe in the lane ahead stands beside a load of a kind at a place; lanes behind are empty yet. */
        private boolean isBeside(int foe, int lane, int place, int kind) {
            for (int i = 0; i < loadCount; i++) {
                if (laneOf[i] == lane - 1 && kind(i) == foe
                        && placeOf[i] < place + spanOf(kind) && place < placeOf[i] + spanOf(foe)) {
                    return true;
                }
            }
            return false;
        }

        private void put(int load, int lane, int driven) {
            placeOf[load] = placeFor(load, lane);
            laneOf[load] = lane;
            room[lane] -= spanOf(kind(load));
            order[driven] = load;
        }

        /** How many are MOVED out of a lane over the day; no chock lies, so each open end is CLEAR. */
        private int costOf(int lane, int to) {
            int from = start[lane];
            boolean both = ship.lanes[deck[lane]].ends == 3;
            int sum = 0;
            for (int i = from; i < to; i++) {
                int port = port(order[i]);
                if (countAt(port, from, i) == 0) {
                    int byEntry = countBeyond(port, i + 1, to);
                    sum += both ? Math.min(byEntry, countBeyond(port, from, lastAt(port, i, to))) : byEntry;
                }
            }
            return sum;
        }

        private int countAt(int port, int from, int to) {
            int sum = 0;
            for (int i = from; i < to; i++) {
                if (port(order[i]) == port) {
                    sum++;
                }
            }
            return sum;
        }

        private int countBeyond(int port, int from, int to) {
            int sum = 0;
            for (int i = from; i < to; i++) {
                if (port(order[i]) > port) {
                    sum++;
                }
            }
            return sum;
        }

        private int lastAt(int port, int from, int to) {
            int last = from;
            for (int i = from; i < to; i++) {
                if (port(order[i]) == port) {
                    last = i;
                }
            }
            return last;
        }

        private void weigh(int cost) {
            if (cost > bestCost || cost == bestCost && !canBeLower(laneCount - 1) || leans()) {
                return;
            }
            bestCost = cost;
            Plan plan = ship.plan;
            for (int i = 0; i < loadCount; i++) {
                plan.load[i] = number[i];
                plan.lane[i] = deck[laneOf[i]];
                plan.place[i] = placeOf[i];
            }
            plan.size = loadCount;
        }

        /**
         * Whether what is driven so far can still come ahead of THE PLAN at equal COST, if all the others stand in this
         * lane or in lanes behind it. Once all are driven: whether it does.
         */
        private boolean canBeLower(int lane) {
            for (int i = 0; i < loadCount; i++) {
                int its = ship.plan.lane[i];
                if (laneOf[i] == NOTHING) {
                    return deck[lane] <= its;
                }
                if (deck[laneOf[i]] != its) {
                    return deck[laneOf[i]] < its;
                }
                if (placeOf[i] != ship.plan.place[i]) {
                    return placeOf[i] < ship.plan.place[i];
                }
            }
            return false;
        }

        /** From the last leg to the first: the LEAN changes only where a load's port is passed. */
        private boolean leans() {
            long sum = 0;
            for (int i = 0; i < loadCount; i++) {
                int load = byFallingPort[i];
                sum += (long) ship.loads.units[number[load]] * ship.lanes[deck[laneOf[load]]].offset;
                boolean portPassed = i + 1 == loadCount || port(byFallingPort[i + 1]) != port(load);
                if (portPassed && (sum > ship.limit || sum < -ship.limit)) {
                    return true;
                }
            }
            return false;
        }
    }
}
