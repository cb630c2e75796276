import java.lang.reflect.InvocationTargetException;
import java.lang.reflect.Method;
import java.lang.reflect.Modifier;
import java.util.ArrayList;
import java.util.HashMap;
import java.util.HashSet;
import java.util.List;
import java.util.Map;
import java.util.Set;
import java.util.function.Supplier;

/**
 * What the boundary tests share. A test is named by its promise and the sentence of the document that it holds the class
 * to. refuses() and finds() hold all that can be seen of a ship against what it was, mostly on one with something of
 * everything, so that what a refusal may not change is seen.
 */
abstract class Boundaries {
    static final int CAR = 1, VAN = 2, COACH = 3, CART = 4, ANIMAL = 5;
    static final int NUMBER = -1, STATE = -2, MISSING = -3, TAKEN = -4, END = -5, HIGH = -6, ROOM = -7, BEHIND = -8,
            NEXT = -9, FULL = -10, LEAN = -11, PORTS = -12, STUCK = -13, LARGE = -14, NEVER = -15, DRAWS = -16,
            FOUND = -17;
    static final int IS_MISSING = 1, BEYOND = 2, SIZE = 3, CAST = 4, COPY = 5, NONE = 6;
    static final int NOTHING = -1, A_CHOCK = -2;
    static final int AT_QUAY = 0, ABOARD = 1, GONE = 2;
    static final int YES = 1, NO = 0;
    static final int LOWEST = Integer.MIN_VALUE, HIGHEST = Integer.MAX_VALUE;

    static final Supplier<FerryDeck> RICH = Boundaries::rich;
    static final Supplier<FerryDeck> AT_SEA = Boundaries::atSea;
    static final Supplier<FerryDeck> NEW = FerryDeck::new;
    static final Supplier<FerryDeck> THREE_LANES = Boundaries::threeLanes;

    private static final Map<String, Method> FACE = face();
    private static final Set<String> NAMES = new HashSet<>();
    private static String promise;
    private static String test;
    private static boolean listing;
    private static int wrong = 0;
    private static int checks = 0;

    private static Map<String, Method> face() {
        Map<String, Method> map = new HashMap<>();
        for (Method m : FerryDeck.class.getDeclaredMethods())
            if (Modifier.isPublic(m.getModifiers())) map.put(m.getName(), m);
        return map;
    }

    // ---- ships to start from

    /** Lane 0 with end 0, lane 1 with end 1, lane 2 with both; 5 places each, HEIGHT 50, OFFSETS -1, 1, 0; 3 ports. */
    static FerryDeck threeLanes() {
        FerryDeck x = new FerryDeck();
        x.lane(0, 5, 50, -1, 1);
        x.lane(1, 5, 50, 1, 2);
        x.lane(2, 5, 50, 0, 3);
        x.day(3, 1000);
        return x;
    }

    /**
     * At the QUAY, with something of everything. Lane 0, from place 0 on: nothing, nothing, the cart 1, the car 0 that
     * draws it (both for port 1), the van 2 (port 0). Lane 1: a chock at place 4. Lane 2: the coach 3 (port 2) at places
     * 2 .. 4. At the quay: the car 4, whose port the day hasn't, and the animal 5 that it draws. Five acts can be undone.
     */
    static FerryDeck rich() {
        FerryDeck x = threeLanes();
        x.load(CAR, 10, 80, 1, 0);
        x.least();
        x.keep(0);
        x.load(CART, 10, 8, 0, 0);
        x.load(VAN, 10, 16, 0, 0);
        x.load(COACH, 10, 24, 2, 0);
        x.load(CAR, 10, 8, 5, 0);
        x.load(ANIMAL, 10, 8, 0, 4);
        x.drive(4, 2, 1);
        x.sail();
        x.undo();
        x.drive(2, 0, 0);
        x.drive(0, 0, 0);
        x.drive(1, 0, 0);
        x.drive(3, 2, 0);
        x.chock(1, 4);
        x.drive(3, 9, 0);
        x.at(9, 0);
        x.copy(0, 0, 5);
        x.step(2, 1, 0, 0);
        x.step(7, 0, 0, 0);
        return x;
    }

    /** The ship of rich() between port 0, where the cart and the car were MOVED and the van left, and port 1. */
    static FerryDeck atSea() {
        FerryDeck x = rich();
        x.sail();
        x.arrive();
        return x;
    }

    /** What row() takes for a place, beside the port of a car. */
    static final int EMPTY = -1, CHOCKED = -2, SAME_COACH = -3, COACH_FOR = 20;

    /**
     * A lane that is told from place 0 on: ports of cars, EMPTY, CHOCKED, or COACH_FOR + its port and twice SAME_COACH.
     * The loads are numbered in the order of their places. An EMPTY place behind which one stands is held by a chock for
     * a while.
     */
    static void row(FerryDeck x, int lane, int ends, int... places) {
        int length = places.length;
        int[] loads = new int[length];
        x.lane(lane, length, 50, 0, ends);
        for (int i = 0; i < length; i++) {
            boolean coach = places[i] >= COACH_FOR;
            if (places[i] >= 0) loads[i] = x.load(coach ? COACH : CAR, 10, 8, places[i] % COACH_FOR, 0);
        }
        int end = ends == 1 ? 0 : 1;
        for (int depth = length - 1; depth >= 0; depth--) {
            int i = end == 0 ? depth : length - 1 - depth;
            if (places[i] == EMPTY || places[i] == CHOCKED) due(1, x, "chock", lane, i);
            if (places[i] >= 0) due(i, x, "drive", loads[i], lane, end);
        }
        for (int i = 0; i < length; i++) if (places[i] == EMPTY) due(1, x, "lift", lane, i);
    }

    static int car(FerryDeck x, int port) {
        return x.load(CAR, 10, 8, port, 0);
    }

    // ---- tests

    static void promise(int number, String of) {
        promise = "promise " + number + ", " + of;
    }

    /** One test: the sentence is the document's, what stands behind it says which case of it. */
    static void says(String sentence, Runnable body) {
        test = promise + ": " + sentence;
        if (listing) System.out.println(test);
        if (!NAMES.add(test)) fail("two tests have this name");
        try {
            body.run();
        } catch (RuntimeException e) {
            fail("it threw " + e);
        }
    }

    private static void fail(String what) {
        wrong++;
        System.out.println(test + ": " + what);
    }

    /** With an argument the names of the tests are told too. */
    static void begin(String[] args) {
        listing = args.length > 0;
    }

    static void end() {
        System.out.println(wrong == 0 ? NAMES.size() + " tests, all " + checks + " answers are as due"
                : wrong + " answers are not as due");
        if (wrong != 0) System.exit(1);
    }

    // ---- calls

    private static String text(String name, long... args) {
        StringBuilder text = new StringBuilder(name).append('(');
        for (int i = 0; i < args.length; i++) text.append(i == 0 ? "" : ", ").append(args[i]);
        return text.append(')').toString();
    }

    /** A boolean counts 1 or 0. */
    private static long call(FerryDeck x, String name, long... args) {
        Method m = FACE.get(name);
        Object[] given = new Object[args.length];
        for (int i = 0; i < args.length; i++)
            given[i] = m.getParameterTypes()[i] == int.class ? (Object) Math.toIntExact(args[i]) : (Object) args[i];
        try {
            Object answer = m.invoke(x, given);
            return answer instanceof Boolean b ? (b ? YES : NO) : ((Number) answer).longValue();
        } catch (InvocationTargetException e) {
            throw new IllegalStateException(text(name, args) + " threw " + e.getCause());
        } catch (IllegalAccessException e) {
            throw new IllegalStateException(e);
        }
    }

    private static void compare(String call, long want, long got) {
        checks++;
        if (got != want) fail(call + " answered " + got + ", due is " + want);
    }

    static void due(long want, FerryDeck x, String name, long... args) {
        compare(text(name, args), want, call(x, name, args));
    }

    /** What is at the places of a lane, from place 0 on. */
    static void dueRow(FerryDeck x, int lane, int... want) {
        for (int i = 0; i < want.length; i++) due(want[i], x, "at", lane, i);
    }

    static void dueLoads(FerryDeck x, String name, int... want) {
        for (int i = 0; i < want.length; i++) due(want[i], x, name, i);
        due(-1, x, name, want.length);
    }

    static void dueWhy(FerryDeck x, long... want) {
        for (int i = 0; i < 4; i++) due(want[i], x, "why", i);
    }

    static void refuses(int refusal, Supplier<FerryDeck> deck, String name, long... args) {
        changesNothing(refusal, deck, name, args);
    }

    /** The call answers so, and changes nothing but what again() tells of a drive() and why() of a sail(). */
    static void changesNothing(int answer, Supplier<FerryDeck> deck, String name, long... args) {
        Look before = new Look(deck.get());
        FerryDeck x = deck.get();
        due(answer, x, name, args);
        Look after = new Look(x);
        String call = " behind " + text(name, args);
        for (int i = 0; i < 7; i++) compare("found(" + i + ")" + call, before.found[i], after.found[i]);
        compare("again()" + call, name.equals("drive") ? answer : before.again, after.again);
        if (!name.equals("sail"))
            for (int i = 0; i < 4; i++) compare("why(" + i + ")" + call, before.why[i], after.why[i]);
        sameRest(call, before, after);
    }

    /** The call answers FOUND, the FINDING is the latest one and one more of its kind, and nothing else is changed. */
    static void finds(int finding, Supplier<FerryDeck> deck, String name, long... args) {
        Look before = new Look(deck.get());
        FerryDeck x = deck.get();
        due(FOUND, x, name, args);
        Look after = new Look(x);
        String call = " behind " + text(name, args);
        compare("found(0)" + call, finding, after.found[0]);
        for (int i = 1; i < 7; i++)
            compare("found(" + i + ")" + call, before.found[i] + (i == finding ? 1 : 0), after.found[i]);
        compare("again()" + call, before.again, after.again);
        for (int i = 0; i < 4; i++) compare("why(" + i + ")" + call, before.why[i], after.why[i]);
        sameRest(call, before, after);
    }

    private static void sameRest(String call, Look before, Look after) {
        checks++;
        for (int i = 0; i < Math.max(before.rest.size(), after.rest.size()); i++) {
            String was = i < before.rest.size() ? before.rest.get(i) : "nothing";
            String is = i < after.rest.size() ? after.rest.get(i) : "nothing";
            if (!was.equals(is)) {
                fail("was " + was + ", is " + is + call);
                return;
            }
        }
    }

    /** All that can be seen of a ship; it is used up by that. What counts FINDINGS is asked behind found(). */
    private static final class Look {
        private static final int MOST_LOADS = 8;
        final long[] found = new long[7];
        final long[] why = new long[4];
        final long again;
        final List<String> rest = new ArrayList<>();
        private final FerryDeck x;

        Look(FerryDeck deck) {
            x = deck;
            for (int i = 0; i < 7; i++) found[i] = x.found(i);
            for (int i = 0; i < 4; i++) why[i] = x.why(i);
            seeShip();
            for (String name : new String[] {"bound", "check"}) see(name);
            for (int i = 0; i < 40; i++) see("sheet", i);
            for (int i = 0; i < 4; i++) see("moved", i);
            for (int i = 0; i < 4; i++) see("left", i);
            for (int i = 0; i < 12; i++) see("lean", i);
            seeLoads();
            for (int i = 0; i < 20; i++) seeLane(i);
            again = x.again();
            seeDayToItsEnd();
            seeActsUndone();
            seeLimit();
            for (int i = 0; i < 2; i++) {
                see("back", i);
                seeShip();
            }
        }

        private long see(String name, long... args) {
            long answer = call(x, name, args);
            rest.add(text(name, args) + " " + answer);
            return answer;
        }

        private void seeShip() {
            for (int i = 0; i < 9; i++) see("ship", i);
            see("loads");
        }

        private void seeLoads() {
            for (int i = 0; i < Math.min(MOST_LOADS, x.loads()); i++) {
                for (int what = 0; what < 9; what++) see("of", i, what);
                for (int what = 0; what < 2; what++) see("planned", i, what);
            }
        }

        private void seeLane(int i) {
            if (see("told", i, 0) < 0) return;
            for (int what = 1; what < 5; what++) see("told", i, what);
            seePlaces(i);
        }

        private void seePlaces(int i) {
            for (int place = 0; place < 5; place++) see("at", i, place);
        }

        private void seeDayToItsEnd() {
            for (int i = 0; i < 12; i++) if (see("arrive") < 0) return;
        }

        private void seeActsUndone() {
            for (int i = 0; i < 6; i++) {
                if (see("undo") < 0) return;
                for (int lane = 0; lane < 3; lane++) seePlaces(lane);
            }
        }

        /** A heavy car leans so far that why() tells the LIMIT. */
        private void seeLimit() {
            long heavy = see("load", CAR, 1, 8_000_000, 0, 0);
            see("drive", heavy, 0, 0);
            see("sail");
            for (int i = 0; i < 4; i++) see("why", i);
        }
    }
}
