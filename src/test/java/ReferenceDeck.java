import java.util.ArrayDeque;
import java.util.ArrayList;
import java.util.Arrays;
import java.util.Collections;
import java.util.Deque;
import java.util.List;
import java.util.TreeMap;

/**
 * The document word by word, without regard to speed or room: ports are played on a copy, all STOWINGS are driven one
 * by one. RandomRunsTest holds FerryDeck against it.
 */
public final class ReferenceDeck {
    static final int NUMBER = -1, STATE = -2, MISSING = -3, TAKEN = -4, END = -5, HIGH = -6, ROOM = -7, BEHIND = -8,
            NEXT = -9, FULL = -10, LEAN = -11, PORTS = -12, STUCK = -13, LARGE = -14, NEVER = -15, DRAWS = -16,
            FOUND = -17;
    static final Object CHOCK = new Object();

    static final class Load {
        int number, kind, height, weight, port, state, lane = -1, place = -1;
        Load drawer, drawn;

        int span() { return kind == 3 ? 3 : 1; }
        int tall() { return height + (kind == 2 ? 10 : kind == 3 ? 20 : 0); }
        int units() { int u = Math.floorDiv(weight, 8); return kind == 3 ? u * 2 : kind == 5 ? u + 1 : u; }
    }

    static final class Lane {
        int height, offset, ends;
        Object[] places;

        boolean open(int end) { return ends == 3 || ends == end + 1; }
        int depth(int end, int place) { return end == 0 ? place : places.length - 1 - place; }
        boolean isEmpty() { return Arrays.stream(places).allMatch(p -> p == null); }

        List<Integer> byDepth(int end) {
            List<Integer> row = new ArrayList<>();
            for (int i = 0; i < places.length; i++) row.add(i);
            if (end == 1) Collections.reverse(row);
            return row;
        }

        List<Integer> way(int end) {
            List<Integer> row = new ArrayList<>();
            for (int p : byDepth(end)) {
                if (places[p] != null) break;
                row.add(p);
            }
            return row;
        }

        List<Load> loadsByDepth(int end) {
            List<Load> row = new ArrayList<>();
            for (int p : byDepth(end)) if (places[p] instanceof Load l && !row.contains(l)) row.add(l);
            return row;
        }
    }

    /** what: 0 drive, 1 out, 2 chock, 3 lift. */
    record Act(int what, int load, int lane, int place) { }

    static final class World {
        TreeMap<Integer, Lane> lanes = new TreeMap<>();
        List<Load> loads = new ArrayList<>();
        Deque<Act> acts = new ArrayDeque<>();
        List<Integer> moved = new ArrayList<>(), left = new ArrayList<>();
        TreeMap<Integer, int[]> plan = new TreeMap<>();
        int movedInAll, ports = 1, next = -1;
        long limit = 1000;

        World copy() {
            World w = new World();
            for (Load l : loads) {
                Load n = new Load();
                n.number = l.number; n.kind = l.kind; n.height = l.height; n.weight = l.weight; n.port = l.port;
                n.state = l.state; n.lane = l.lane; n.place = l.place;
                if (l.drawer != null) { n.drawer = w.loads.get(l.drawer.number); n.drawer.drawn = n; }
                w.loads.add(n);
            }
            for (int i : lanes.keySet()) {
                Lane l = lanes.get(i), n = new Lane();
                n.height = l.height; n.offset = l.offset; n.ends = l.ends; n.places = l.places.clone();
                for (int p = 0; p < n.places.length; p++)
                    if (n.places[p] instanceof Load x) n.places[p] = w.loads.get(x.number);
                w.lanes.put(i, n);
            }
            w.acts.addAll(acts); w.moved.addAll(moved); w.left.addAll(left);
            for (int i : plan.keySet()) w.plan.put(i, plan.get(i).clone());
            w.movedInAll = movedInAll; w.ports = ports; w.next = next; w.limit = limit;
            return w;
        }

        boolean sea() { return next >= 0; }
        boolean has(int load) { return load >= 0 && load < loads.size(); }
        long count(int state) { return loads.stream().filter(l -> l.state == state).count(); }

        void act(Act a) {
            acts.addLast(a);
            if (acts.size() > 100) acts.removeFirst();
        }

        void set(Load l, int lane, int place) {
            for (int i = 0; i < l.span(); i++) lanes.get(lane).places[place + i] = l;
            l.state = 1; l.lane = lane; l.place = place;
        }

        void unset(Load l, int state) {
            for (int i = 0; i < l.span(); i++) lanes.get(l.lane).places[l.place + i] = null;
            l.state = state; l.lane = -1; l.place = -1;
        }

        List<Object> nextTo(int lane, int place) {
            List<Object> row = new ArrayList<>();
            for (int[] d : new int[][] {{0, 1}, {0, -1}, {1, 0}, {-1, 0}}) {
                Lane n = lanes.get(lane + d[0]);
                int p = place + d[1];
                if (n != null && p >= 0 && p < n.places.length) row.add(n.places[p]);
            }
            return row;
        }

        int drive(int load, int lane, int end) {
            if (!has(load) || lane < 0 || lane > 19 || end < 0 || end > 1) return NUMBER;
            if (sea()) return STATE;
            Load l = loads.get(load);
            if (l.state != 0) return TAKEN;
            Lane into = lanes.get(lane);
            if (into == null) return MISSING;
            if (!into.open(end)) return END;
            if (l.tall() > into.height) return HIGH;
            List<Integer> way = into.way(end);
            if (way.size() < l.span()) return ROOM;
            if (l.drawer != null) {
                if (way.size() == into.places.length) return BEHIND;
                if (into.places[into.byDepth(end).get(way.size())] != l.drawer) return BEHIND;
            }
            List<Integer> mine = way.subList(way.size() - l.span(), way.size());
            for (int p : mine)
                for (Object o : nextTo(lane, p))
                    if (o instanceof Load x && (x.kind == 5 && l.kind == 3 || x.kind == 3 && l.kind == 5)) return NEXT;
            int place = Collections.min(mine);
            set(l, lane, place);
            act(new Act(0, load, lane, place));
            return place;
        }

        int out(int load, int end) {
            if (!has(load) || end < 0 || end > 1) return NUMBER;
            if (sea()) return STATE;
            Load l = loads.get(load);
            if (l.state != 1) return TAKEN;
            Lane from = lanes.get(l.lane);
            if (!from.open(end)) return END;
            for (int p : from.byDepth(end)) {
                if (from.places[p] == l) break;
                if (from.places[p] != null) return ROOM;
            }
            if (l.drawn != null && l.drawn.state == 1) return DRAWS;
            act(new Act(1, load, l.lane, l.place));
            unset(l, 0);
            return 1;
        }

        int undo() {
            if (sea()) return STATE;
            if (acts.isEmpty()) return NUMBER;
            Act a = acts.removeLast();
            switch (a.what()) {
                case 0 -> unset(loads.get(a.load()), 0);
                case 1 -> set(loads.get(a.load()), a.lane(), a.place());
                case 2 -> lanes.get(a.lane()).places[a.place()] = null;
                default -> lanes.get(a.lane()).places[a.place()] = CHOCK;
            }
            return 1;
        }

        long lean(int leg) {
            return loads.stream().filter(l -> l.state == 1 && l.port >= leg)
                    .mapToLong(l -> (long) l.units() * lanes.get(l.lane).offset).sum();
        }

        /** Answers the reason as why() tells it, with the refusal behind it; null if the ship would sail. */
        long[] hindrance() {
            for (Load l : loads) if (l.state == 1 && l.port >= ports) return new long[] {l.number, 0, 0, -1, PORTS};
            for (int k = 0; k < ports; k++) {
                if (lean(k) > limit) return new long[] {k, 1, lean(k) - limit, -1, LEAN};
                if (lean(k) < -limit) return new long[] {k, -1, -limit - lean(k), -1, LEAN};
            }
            World w = copy();
            for (int k = 0; k < ports; k++) {
                int stuck = w.port(k);
                if (stuck >= 0) return new long[] {k, 0, 0, stuck, STUCK};
            }
            return null;
        }

        /** Plays port k; answers the least lane that is stuck, or -1. */
        int port(int k) {
            moved.clear();
            left.clear();
            for (int i : lanes.keySet()) {
                Lane lane = lanes.get(i);
                List<Load> leavers = lane.loadsByDepth(0).stream().filter(l -> l.port == k).toList();
                if (leavers.isEmpty()) continue;
                List<List<Load>> byEnd = new ArrayList<>();
                for (int end = 0; end < 2; end++) byEnd.add(isClear(lane, end, leavers) ? inTheWay(lane, end, leavers) : null);
                int end;
                if (byEnd.get(0) == null && byEnd.get(1) == null) return i;
                if (byEnd.get(0) == null) end = 1;
                else if (byEnd.get(1) == null) end = 0;
                else end = byEnd.get(1).size() < byEnd.get(0).size() ? 1 : 0;
                List<Load> way = byEnd.get(end);
                Deque<int[]> ashore = new ArrayDeque<>();
                for (Load l : lane.loadsByDepth(end)) {
                    if (l.port == k) {
                        left.add(l.number);
                        unset(l, 2);
                    } else if (way.contains(l)) {
                        moved.add(l.number);
                        ashore.push(new int[] {l.number, l.lane, l.place});
                        unset(l, 0);
                    }
                }
                for (int[] m : ashore) set(loads.get(m[0]), m[1], m[2]);
            }
            return -1;
        }

        boolean isClear(Lane lane, int end, List<Load> leavers) {
            if (!lane.open(end)) return false;
            for (int c = 0; c < lane.places.length; c++)
                for (int p = 0; p < lane.places.length; p++)
                    if (lane.places[c] == CHOCK && leavers.contains(lane.places[p])
                            && lane.depth(end, c) < lane.depth(end, p)) return false;
            return true;
        }

        List<Load> inTheWay(Lane lane, int end, List<Load> leavers) {
            List<Load> row = new ArrayList<>();
            for (int c = 0; c < lane.places.length; c++)
                for (int p = 0; p < lane.places.length; p++)
                    if (lane.places[c] instanceof Load x && !leavers.contains(x) && leavers.contains(lane.places[p])
                            && lane.depth(end, c) < lane.depth(end, p) && !row.contains(x)) row.add(x);
            return row;
        }

        int bound() {
            World w = copy();
            int sum = 0;
            for (int k = Math.max(0, next); k < ports; k++) {
                if (w.port(k) >= 0) return STUCK;
                sum += w.moved.size();
            }
            return sum;
        }

        int arrive() {
            if (!sea()) return STATE;
            port(next);
            movedInAll += moved.size();
            next = next + 1 == ports ? -1 : next + 1;
            return moved.size();
        }

        int sail() {
            if (sea()) return STATE;
            long[] why = hindrance();
            if (why != null) return (int) why[4];
            next = 0;
            acts.clear();
            return 1;
        }
    }

    private World w = new World();
    private final World[] kept = new World[2];
    private final int[] sheet = new int[40], found = new int[7];
    private final List<int[]> steps = new ArrayList<>();
    private Integer refusal;
    private long[] why = {0, 0, 0, -1};

    /** A copy, for tests that want to look ahead. */
    World worldCopy() { return w.copy(); }

    private int find(int f) { found[0] = f; found[f]++; return FOUND; }

    private static boolean in(long n, long from, long to) { return n >= from && n <= to; }

    public int lane(int i, int length, int height, int offset, int ends) {
        if (!in(i, 0, 19)) return NUMBER;
        if (length < 0) return find(3);
        if (!in(length, 1, 40) || !in(height, 1, 1000) || !in(offset, -1000, 1000) || !in(ends, 1, 3)) return NUMBER;
        if (w.sea()) return STATE;
        if (w.lanes.containsKey(i) && !w.lanes.get(i).isEmpty()) return TAKEN;
        Lane l = new Lane();
        l.places = new Object[length]; l.height = height; l.offset = offset; l.ends = ends;
        w.lanes.put(i, l);
        w.acts.clear();
        return 1;
    }

    public int miss(int i) {
        if (!in(i, 0, 19)) return NUMBER;
        if (w.sea()) return STATE;
        if (!w.lanes.containsKey(i)) return MISSING;
        if (!w.lanes.get(i).isEmpty()) return TAKEN;
        w.lanes.remove(i);
        w.acts.clear();
        return 1;
    }

    public int told(int i, int what) {
        if (!in(what, 0, 4)) return NUMBER;
        if (!in(i, 0, 19)) return find(2);
        Lane l = w.lanes.get(i);
        if (l == null) return find(1);
        return new int[] {l.places.length, l.height, l.offset, l.ends, l.loadsByDepth(0).size()}[what];
    }

    private int chocks(int lane, int place, Object before, Object behind, int act) {
        if (!in(lane, 0, 19)) return NUMBER;
        if (w.sea()) return STATE;
        Lane l = w.lanes.get(lane);
        if (l == null) return MISSING;
        if (!in(place, 0, l.places.length - 1)) return NUMBER;
        if (l.places[place] != before) return TAKEN;
        l.places[place] = behind;
        w.act(new Act(act, -1, lane, place));
        return 1;
    }

    public int chock(int lane, int place) { return chocks(lane, place, null, CHOCK, 2); }
    public int lift(int lane, int place) { return chocks(lane, place, CHOCK, null, 3); }

    private static int tell(Object o) { return o == null ? -1 : o instanceof Load l ? l.number : -2; }

    public int at(int lane, int place) {
        if (!in(lane, 0, 19)) return find(2);
        Lane l = w.lanes.get(lane);
        if (l == null) return find(1);
        if (!in(place, 0, l.places.length - 1)) return find(2);
        return tell(l.places[place]);
    }

    public int kindAt(int lane, int place) {
        int a = at(lane, place);
        if (a == FOUND) return FOUND;
        return a < 0 ? find(4) : w.loads.get(a).kind;
    }

    public int copy(int lane, int from, int n) {
        if (!in(lane, 0, 19)) return find(2);
        Lane l = w.lanes.get(lane);
        if (l == null) return find(1);
        if (from < 0 || n < 0 || (long) from + (long) n > l.places.length || n > 40) return find(5);
        for (int i = 0; i < n; i++) sheet[i] = tell(l.places[from + i]);
        return n;
    }

    public int sheet(int i) { return in(i, 0, 39) ? sheet[i] : find(2); }

    public int free(int lane, int end) {
        if (!in(lane, 0, 19) || !in(end, 0, 1)) return NUMBER;
        Lane l = w.lanes.get(lane);
        if (l == null) return MISSING;
        return l.open(end) ? l.way(end).size() : END;
    }

    public int load(int kind, int height, int weight, int port, int drawer) {
        if (!in(kind, 1, 5) || !in(height, 1, 1000) || !in(weight, 0, 8_000_000)) return NUMBER;
        if (kind <= 3 && !in(port, 0, 11)) return NUMBER;
        if (kind > 3 && !w.has(drawer)) return NUMBER;
        Load d = kind > 3 ? w.loads.get(drawer) : null;
        if (d != null && (d.kind == 5 || d.drawn != null)) return DRAWS;
        if (d != null && d.state == 2) return TAKEN;
        if (w.loads.size() == 400) return FULL;
        Load l = new Load();
        l.number = w.loads.size(); l.kind = kind; l.height = height; l.weight = weight;
        l.port = d == null ? port : d.port;
        l.drawer = d;
        if (d != null) d.drawn = l;
        w.loads.add(l);
        return l.number;
    }

    public int of(int load, int what) {
        if (!in(what, 0, 8)) return NUMBER;
        if (!w.has(load)) return find(2);
        Load l = w.loads.get(load);
        return new int[] {l.kind, l.span(), l.tall(), l.units(), l.port, l.state, l.lane, l.place,
            l.drawn == null ? -1 : l.drawn.number}[what];
    }

    public int more(int load) {
        if (!w.has(load)) return find(2);
        Load l = w.loads.get(load);
        return l.kind == 2 || l.kind == 3 ? l.tall() - l.height : find(4);
    }

    public int drawer(int load) {
        if (!w.has(load)) return find(2);
        Load l = w.loads.get(load);
        return l.kind > 3 ? l.drawer.number : find(4);
    }

    public int loads() { return w.loads.size(); }

    public boolean near(int one, int two) {
        if (!w.has(one) || !w.has(two) || one == two) return false;
        Load a = w.loads.get(one), b = w.loads.get(two);
        if (a.state != 1 || b.state != 1) return false;
        for (int i = 0; i < a.span(); i++) if (w.nextTo(a.lane, a.place + i).contains(b)) return true;
        return false;
    }

    public int drive(int load, int lane, int end) {
        int answer = w.drive(load, lane, end);
        if (answer < 0) refusal = answer;
        return answer;
    }

    public int out(int load, int end) { return w.out(load, end); }
    public int undo() { return w.undo(); }
    public int again() { return refusal == null ? find(6) : refusal; }

    public int day(int ports, long limit) {
        if (!in(ports, 1, 12) || !in(limit, 0, 1_000_000_000_000L)) return NUMBER;
        if (w.sea()) return STATE;
        if (w.count(1) > 0) return TAKEN;
        w.ports = ports;
        w.limit = limit;
        w.acts.clear();
        return 1;
    }

    public long lean(int leg) { return in(leg, Math.max(0, w.next), w.ports - 1) ? w.lean(leg) : 0; }

    public int sail() {
        long[] h = w.sea() ? null : w.hindrance();
        why = h == null ? new long[] {0, 0, 0, -1} : h;
        return w.sail();
    }

    public long why(int what) { return in(what, 0, 3) ? why[what] : -1; }
    public int arrive() { return w.arrive(); }
    private static int item(List<Integer> row, int i) { return in(i, 0, row.size() - 1) ? row.get(i) : -1; }
    public int moved(int i) { return item(w.moved, i); }
    public int left(int i) { return item(w.left, i); }
    public int bound() { return w.bound(); }

    public int ship(int what) {
        switch (what) {
            case 0: return w.sea() ? 1 : 0;
            case 1: return w.next;
            case 2: return w.ports;
            case 3: return (int) w.count(1);
            case 4: return (int) w.count(2);
            case 5: return w.movedInAll;
            case 6: return w.acts.size();
            case 7: return steps.size();
            case 8: return w.lanes.size();
            default: return -1;
        }
    }

    private World bestWorld;
    private int bestCost;
    private List<Integer> waiting;

    public int least() {
        if (w.sea()) return STATE;
        if (w.count(1) > 0) return TAKEN;
        for (Lane l : w.lanes.values()) if (!l.isEmpty()) return TAKEN;
        if (!in(w.lanes.size(), 1, 3) || !in(w.count(0), 1, 6)) return LARGE;
        for (Load l : w.loads) if (l.state == 0 && l.port >= w.ports) return PORTS;
        waiting = w.loads.stream().filter(l -> l.state == 0).map(l -> l.number).toList();
        bestWorld = null;
        List<List<Integer>> stowing = new ArrayList<>();
        for (int i = 0; i < w.lanes.size(); i++) stowing.add(new ArrayList<>());
        assign(stowing, 0);
        w.plan.clear();
        if (bestWorld == null) return NEVER;
        for (int i : waiting) w.plan.put(i, new int[] {bestWorld.loads.get(i).lane, bestWorld.loads.get(i).place});
        return bestCost;
    }

    /** Puts the i-th waiting load at each place of each lane's order. */
    private void assign(List<List<Integer>> stowing, int i) {
        if (i == waiting.size()) {
            tryStowing(stowing);
            return;
        }
        for (List<Integer> order : stowing)
            for (int p = 0; p <= order.size(); p++) {
                order.add(p, waiting.get(i));
                assign(stowing, i + 1);
                order.remove(p);
            }
    }

    private void tryStowing(List<List<Integer>> stowing) {
        World t = w.copy();
        int n = 0;
        for (int lane : t.lanes.keySet())
            for (int load : stowing.get(n++))
                if (t.drive(load, lane, t.lanes.get(lane).open(0) ? 0 : 1) < 0) return;
        if (n != stowing.size() || t.hindrance() != null) return;
        int cost = t.bound();
        if (bestWorld == null || cost < bestCost || cost == bestCost && isAhead(t)) {
            bestWorld = t;
            bestCost = cost;
        }
    }

    private boolean isAhead(World t) {
        for (int i : waiting) {
            Load mine = t.loads.get(i), its = bestWorld.loads.get(i);
            if (mine.lane != its.lane) return mine.lane < its.lane;
            if (mine.place != its.place) return mine.place < its.place;
        }
        return false;
    }

    public int planned(int load, int what) {
        return in(what, 0, 1) && w.plan.containsKey(load) ? w.plan.get(load)[what] : -1;
    }

    public int stow() {
        int cost = least();
        if (cost >= 0) {
            for (int i : w.plan.keySet()) w.set(w.loads.get(i), w.plan.get(i)[0], w.plan.get(i)[1]);
            w.acts.clear();
        }
        return cost;
    }

    public int step(int op, int a, int b, int c) {
        if (steps.size() == 200) return FULL;
        steps.add(new int[] {op, a, b, c});
        return steps.size();
    }

    public int forget() {
        int n = steps.size();
        steps.clear();
        return n;
    }

    public int check() {
        World t = w.copy();
        int n = 0;
        for (int[] s : steps) {
            boolean so = switch (s[0]) {
                case 1 -> t.drive(s[1], s[2], s[3]) >= 0;
                case 2 -> t.out(s[1], s[2]) == 1;
                case 3 -> t.sail() == 1;
                case 4 -> s[1] >= 0 && t.arrive() == s[1];
                case 5 -> s[2] != -1 && item(t.moved, s[1]) == s[2];
                case 6 -> s[2] != -1 && item(t.left, s[1]) == s[2];
                case 7 -> t.undo() == 1;
                default -> false;
            };
            if (!so) break;
            n++;
        }
        return n;
    }

    public boolean keep(int place) {
        if (!in(place, 0, 1)) return false;
        kept[place] = w.copy();
        return true;
    }

    public boolean back(int place) {
        if (!in(place, 0, 1) || kept[place] == null) return false;
        w = kept[place].copy();
        return true;
    }

    public int found(int what) { return in(what, 0, 6) ? found[what] : -1; }
}
