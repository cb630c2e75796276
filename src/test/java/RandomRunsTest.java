import java.lang.reflect.InvocationTargetException;
import java.lang.reflect.Method;
import java.util.Arrays;
import java.util.HashMap;
import java.util.Map;
import java.util.Random;

/** Long runs of calls, drawn from fixed seeds, whose answers must be those of ReferenceDeck. */
public final class RandomRunsTest {
    private static final int[] EDGES = {Integer.MIN_VALUE, -1001, -1000, -18, -17, -2, -1, 0, 1, 2, 3, 4, 5, 8, 9, 11,
        12, 19, 20, 39, 40, 41, 199, 200, 399, 400, 1000, 1001, 8_000_000, 8_000_001, Integer.MAX_VALUE - 1,
        Integer.MAX_VALUE};
    private static final long[] LIMITS = {Long.MIN_VALUE, -1, 0, 1, 5, 20, 60, 200, 1000, 1_000_000_000_000L,
        1_000_000_000_001L, Long.MAX_VALUE};
    private static final int MOST_CALLS = 512;

    private static final Map<String, Method> DECK = methods(FerryDeck.class);
    private static final Map<String, Method> REFERENCE = methods(ReferenceDeck.class);
    private static int wrong = 0;

    private final Random random;
    private final int seed;
    private final FerryDeck deck = new FerryDeck();
    private final ReferenceDeck reference = new ReferenceDeck();
    private int calls = 0;
    private boolean failed = false;
    private int lanes = 4;
    private int planLoads = 0;

    private RandomRunsTest(int seed) {
        this.seed = seed;
        this.random = new Random(seed);
    }

    private static Map<String, Method> methods(Class<?> of) {
        Map<String, Method> map = new HashMap<>();
        for (Method m : of.getDeclaredMethods())
            if (java.lang.reflect.Modifier.isPublic(m.getModifiers())) map.put(m.getName(), m);
        return map;
    }

    private Object call(String name, Object... args) {
        if (failed || calls >= MOST_CALLS) return 0;
        calls++;
        try {
            Object due = REFERENCE.get(name).invoke(reference, args);
            Object got = DECK.get(name).invoke(deck, args);
            if (!due.equals(got)) fail(name, args, got, due);
            return due;
        } catch (InvocationTargetException e) {
            fail(name, args, e.getCause(), "no exception");
        } catch (IllegalAccessException e) {
            throw new IllegalStateException(e);
        }
        return 0;
    }

    private void fail(String name, Object[] args, Object got, Object due) {
        failed = true;
        wrong++;
        System.out.println("seed " + seed + ", call " + calls + ": " + name + Arrays.toString(args) + " answered " + got
                + ", due is " + due);
    }

    private int upTo(int n) { return random.nextInt(n); }
    private int edge() { return EDGES[upTo(EDGES.length)]; }
    private boolean rarely() { return upTo(25) == 0; }
    private int lane() { return rarely() ? edge() : upTo(lanes); }
    private int place() { return rarely() ? edge() : upTo(10); }
    private int end() { return rarely() ? edge() : upTo(2); }
    private int loadCount() { return Math.max(1, reference.loads()); }
    private int load() { return rarely() ? edge() : upTo(loadCount()); }

    private void tellLane(int i) {
        call("lane", i, rarely() ? edge() : 1 + upTo(10), rarely() ? edge() : 15 + upTo(40),
                rarely() ? edge() : upTo(7) - 3, rarely() ? edge() : 1 + upTo(3));
    }

    private void tellLoad() {
        int kind = rarely() ? edge() : 1 + upTo(5);
        call("load", kind, rarely() ? edge() : 1 + upTo(25), rarely() ? edge() : upTo(100), rarely() ? edge() : upTo(5),
                rarely() ? edge() : upTo(loadCount()));
    }

    private void tellDay() {
        call("day", rarely() ? edge() : 3 + upTo(4), LIMITS[upTo(LIMITS.length)]);
    }

    /** Steps that are so, found by playing them on a copy; now and then one that isn't. */
    private void tellSteps() {
        ReferenceDeck.World t = reference.worldCopy();
        int n = 4 + upTo(20);
        for (int i = 0; i < n; i++) {
            int a = load(), b = lane(), c = end();
            if (rarely()) {
                call("step", upTo(10), a, b, c);
            } else if (t.sea()) {
                call("step", 4, t.arrive(), b, c);
                if (!t.moved.isEmpty()) call("step", 5, 0, t.moved.get(0), c);
                if (!t.left.isEmpty()) call("step", 6, t.left.size() - 1, t.left.get(t.left.size() - 1), c);
            } else if (i + 6 > n && t.sail() == 1) {
                call("step", 3, a, b, c);
            } else if (upTo(4) == 0) {
                if (t.undo() == 1) call("step", 7, a, b, c);
            } else if (upTo(4) == 0) {
                if (t.out(a, c) == 1) call("step", 2, a, c, b);
            } else if (t.drive(a, b, c) >= 0) {
                call("step", 1, a, b, c);
            }
        }
        call("check");
    }

    private void sailOn() {
        call("bound");
        if (call("sail").equals(1)) {
            int n = reference.worldCopy().ports + (upTo(3) == 0 ? -1 : 0);
            for (int i = 0; i < n; i++) {
                call("bound");
                call("lean", i);
                call("lean", upTo(6));
                call("arrive");
                for (int j = 0; j < 3; j++) {
                    call("moved", j);
                    call("left", j);
                }
            }
        } else {
            for (int i = -1; i <= 4; i++) call("why", i);
        }
    }

    private void someCall() {
        switch (upTo(34)) {
            case 0: tellLane(lane()); break;
            case 1: if (upTo(4) == 0) call("miss", lane()); break;
            case 2: call("told", lane(), rarely() ? edge() : upTo(5)); break;
            case 3: if (upTo(3) == 0) call("chock", lane(), place()); break;
            case 4: call("lift", lane(), place()); break;
            case 5: call("at", lane(), place()); break;
            case 6: call("kindAt", lane(), place()); break;
            case 7: call("copy", lane(), place(), place()); break;
            case 8: call("sheet", place()); break;
            case 9: call("free", lane(), end()); break;
            case 10: tellLoad(); break;
            case 11: call("of", load(), rarely() ? edge() : upTo(9)); break;
            case 12: call("more", load()); break;
            case 13: call("drawer", load()); break;
            case 14: call("loads"); break;
            case 15: call("near", load(), load()); break;
            case 16: call("out", load(), end()); break;
            case 17: call("undo"); break;
            case 18: call("again"); break;
            case 19: if (upTo(3) == 0) tellDay(); break;
            case 20: call("lean", upTo(8) - 1); break;
            case 21: if (upTo(3) == 0) sailOn(); break;
            case 22: call("why", upTo(6) - 1); break;
            case 23: call("arrive"); break;
            case 24: call("bound"); break;
            case 25: call("ship", upTo(11) - 1); break;
            case 26: if (upTo(3) == 0) tellSteps(); break;
            case 27: call("check"); break;
            case 28: if (upTo(3) == 0) call("forget"); break;
            case 29: call("keep", upTo(4) - 1); break;
            case 30: if (upTo(2) == 0) call("back", upTo(4) - 1); break;
            case 31: call("found", upTo(9) - 1); break;
            default: drives(); break;
        }
    }

    private void drives() {
        int n = 1 + upTo(6);
        for (int i = 0; i < n; i++) call("drive", load(), lane(), end());
    }

    private void lookAtAll() {
        for (int i = -1; i <= 7; i++) call("found", i);
        for (int i = -1; i <= 9; i++) call("ship", i);
        for (int i = -1; i <= 4; i++) call("why", i);
        call("again");
        for (int i = 0; i < lanes; i++) {
            call("told", i, 4);
            call("copy", i, 0, 5);
            for (int j = 0; j < 5; j++) call("sheet", j);
        }
        for (int i = 0; i < Math.min(12, reference.loads()); i++) {
            call("of", i, 5);
            call("of", i, 6);
            call("of", i, 7);
            call("planned", i, 0);
            call("planned", i, 1);
        }
    }

    private void mixedRun() {
        lanes = 2 + upTo(4);
        for (int i = 0; i < lanes; i++) tellLane(i);
        tellDay();
        int n = 3 + upTo(10);
        for (int i = 0; i < n; i++) tellLoad();
        while (!failed && calls < MOST_CALLS - 130) someCall();
        lookAtAll();
    }

    private void crowdedRun() {
        lanes = 2 + upTo(2);
        for (int i = 0; i < lanes; i++) call("lane", i, 6 + upTo(20), 60, upTo(5) - 2, 1 + upTo(3));
        call("day", 6, 100_000L);
        for (int i = 0; i < 30; i++) {
            int kind = new int[] {1, 2, 3, 3, 4, 5, 5}[upTo(7)];
            call("load", kind, 10, upTo(50), upTo(6), i - 1 - upTo(2));
        }
        for (int round = 0; round < 4; round++) {
            for (int i = 0; i < 25; i++) call("drive", upTo(loadCount()), upTo(lanes), upTo(2));
            for (int i = 0; i < 2; i++) call("chock", upTo(lanes), upTo(20));
            call("keep", 0);
            sailOn();
            call("back", 0);
            for (int i = 0; i < 12; i++) call("undo");
        }
        lookAtAll();
    }

    /** Small days of all sorts; many of them can't be stowed. */
    private void strictPlanRun(int mostLoads) {
        lanes = 1 + upTo(3);
        int step = 1 + upTo(2);
        for (int i = 0; i < lanes; i++)
            call("lane", i * step, 2 + upTo(6), 25 + upTo(25), upTo(7) - 3, 1 + upTo(3));
        call("day", 1 + upTo(5), LIMITS[2 + upTo(7)]);
        planLoads = 1 + upTo(mostLoads);
        for (int i = 0; i < planLoads; i++)
            call("load", upTo(3) == 0 ? 4 + upTo(2) : 1 + upTo(3), 1 + upTo(25), upTo(100), upTo(4), i - 1);
        planAndSail();
    }

    /** Small days that can mostly be stowed, but with coaches and animals that must stand in each other's way. */
    private void roomyPlanRun(int mostLoads) {
        int[] kinds = {1, 2, 3, 3, 5, 5, 4};
        lanes = 1 + upTo(3);
        int step = 1 + upTo(4) / 3;
        for (int i = 0; i < lanes; i++)
            call("lane", 3 + i * step, 5 + upTo(6), 50, upTo(5) - 2, 1 + upTo(3));
        call("day", 4, upTo(3) == 0 ? 40L : 1000L);
        planLoads = 2 + upTo(mostLoads - 1);
        for (int i = 0; i < planLoads; i++)
            call("load", kinds[upTo(i == 0 ? 4 : 7)], 1 + upTo(25), upTo(100), upTo(4), i - 1);
        planAndSail();
    }

    /** Little room, coaches for early ports and animals for late ones: few of these days go without moving. */
    private void tightPlanRun() {
        lanes = 1 + upTo(2);
        for (int i = 0; i < lanes; i++) call("lane", i, 8 - 2 * lanes + upTo(4), 50, upTo(3) - 1, 1 + upTo(3));
        call("day", 4, 1000L);
        int coaches = 1 + upTo(2);
        for (int i = 0; i < coaches; i++) call("load", 3, 10, 8 + upTo(30), upTo(3), 0);
        for (int i = 0; i < 3 - coaches + upTo(2); i++) {
            int drawer = (Integer) call("load", 1 + upTo(2), 10, upTo(60), 1 + upTo(3), 0);
            call("load", 5, 10, upTo(60), 0, drawer);
        }
        planLoads = reference.loads();
        planAndSail();
    }

    private void planAndSail() {
        call("least");
        for (int i = -1; i <= planLoads; i++) for (int what = -1; what < 3; what++) call("planned", i, what);
        call("drive", 0, 0, 0);
        call("keep", 0);
        call("stow");
        call("ship", 6);
        call("undo");
        call("stow");
        lookAtAll();
        sailOn();
        lookAtAll();
        call("keep", 1);
        call("back", 0);
        lookAtAll();
        call("load", 1 + upTo(2), 10, upTo(50), upTo(4), 0);
        call("least");
        call("back", upTo(2));
        lookAtAll();
    }

    private void wildRun() {
        String[] names = DECK.keySet().stream().sorted().toArray(String[]::new);
        while (!failed && calls < MOST_CALLS) {
            Method m = DECK.get(names[upTo(names.length)]);
            Object[] args = new Object[m.getParameterCount()];
            for (int i = 0; i < args.length; i++)
                args[i] = m.getParameterTypes()[i] == long.class ? (Object) LIMITS[upTo(LIMITS.length)]
                        : (Object) (upTo(3) == 0 ? edge() : upTo(4));
            call(m.getName(), args);
        }
    }

    public static void main(String[] args) {
        int factor = args.length > 0 ? Integer.parseInt(args[0]) : 1;
        for (int i = 0; i < 600 * factor; i++) new RandomRunsTest(i).mixedRun();
        for (int i = 0; i < 400 * factor; i++) new RandomRunsTest(100_000 + i).crowdedRun();
        for (int i = 0; i < 300 * factor; i++) new RandomRunsTest(200_000 + i).strictPlanRun(5);
        for (int i = 0; i < 300 * factor; i++) new RandomRunsTest(300_000 + i).roomyPlanRun(4);
        for (int i = 0; i < 300 * factor; i++) new RandomRunsTest(600_000 + i).tightPlanRun();
        for (int i = 0; i < 40 * factor; i++) new RandomRunsTest(500_000 + i).roomyPlanRun(6);
        for (int i = 0; i < 200 * factor; i++) new RandomRunsTest(400_000 + i).wildRun();
        System.out.println(wrong == 0 ? "all answers are as due" : wrong + " runs have a wrong answer");
        if (wrong != 0) System.exit(1);
    }
}
