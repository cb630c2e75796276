import java.util.function.Supplier;

/** Promises 22 to 25, 29 and 30, the day: each sentence that names a boundary case has a test of its own. */
public final class DayBoundariesTest extends Boundaries {
    private static final long MOST_LIMIT = 1_000_000_000_000L;

    private static void day() {
        promise(22, "day");
        says("NUMBER: ports isn't 1 .. 12", () -> {
            for (int ports : new int[] {0, -1, LOWEST, 13, HIGHEST}) refuses(NUMBER, THREE_LANES, "day", ports, 5);
        });
        says("NUMBER: ports isn't 1 .. 12, the least and the most are", () -> {
            FerryDeck x = threeLanes();
            due(1, x, "day", 1, 5);
            due(1, x, "ship", 2);
            due(1, x, "day", 12, 5);
            due(12, x, "ship", 2);
        });
        says("NUMBER: limit not 0 .. 1,000,000,000,000", () -> {
            for (long limit : new long[] {-1, Long.MIN_VALUE, MOST_LIMIT + 1, Long.MAX_VALUE, LOWEST})
                refuses(NUMBER, THREE_LANES, "day", 2, limit);
        });
        says("NUMBER: limit not 0 .. 1,000,000,000,000, the least is", () -> {
            due(1, leaning(0, 0, 0), "sail");
            due(LEAN, leaning(0, 1, 0), "sail");
        });
        says("NUMBER: limit not 0 .. 1,000,000,000,000, the most is", () -> {
            FerryDeck x = threeLanes();
            due(1, x, "day", 2, MOST_LIMIT);
            due(1, leaning(MOST_LIMIT, 1_000_000, 0), "sail");
        });
        says("NUMBER comes ahead of STATE", () -> {
            refuses(NUMBER, AT_SEA, "day", 0, 5);
            refuses(NUMBER, AT_SEA, "day", 13, 5);
            refuses(NUMBER, AT_SEA, "day", 2, -1);
            refuses(NUMBER, AT_SEA, "day", 2, MOST_LIMIT + 1);
        });
        says("NUMBER comes ahead of TAKEN", () -> {
            refuses(NUMBER, RICH, "day", 13, 5);
            refuses(NUMBER, RICH, "day", 2, -1);
        });
        says("STATE: not at the QUAY", () -> refuses(STATE, () -> {
            FerryDeck x = threeLanes();
            x.sail();
            return x;
        }, "day", 2, 5));
        says("STATE comes ahead of TAKEN", () -> refuses(STATE, AT_SEA, "day", 2, 5));
        says("TAKEN: a load is ABOARD", () -> refuses(TAKEN, RICH, "day", 2, 5));
        says("TAKEN: a load is ABOARD, one alone", () -> refuses(TAKEN, () -> {
            FerryDeck x = threeLanes();
            car(x, 0);
            x.drive(0, 0, 0);
            return x;
        }, "day", 2, 5));
        says("TAKEN: a load is ABOARD, those at the QUAY or GONE and a CHOCK are not", () -> {
            FerryDeck x = atSea();
            x.arrive();
            x.arrive();
            due(1, x, "day", 2, 5);
            due(2, x, "ship", 2);
        });
        says("UNDO is forgotten", () -> {
            FerryDeck x = threeLanes();
            x.chock(0, 0);
            due(1, x, "day", 3, 1000);
            due(0, x, "ship", 6);
            due(NUMBER, x, "undo");
        });
    }

    /** A lane of OFFSET 1 and one of OFFSET -1, 3 ports; a car of so many units for port 0 and one for port 1. */
    private static FerryDeck leaning(long limit, int first, int second) {
        return leaning(limit, first, 0, second, 1);
    }

    /** Below 0 the units stand in the lane of OFFSET -1. */
    private static FerryDeck leaning(long limit, int units, int port, int otherUnits, int otherPort) {
        FerryDeck x = new FerryDeck();
        x.lane(4, 5, 50, 1, 3);
        x.lane(8, 5, 50, -1, 3);
        x.day(3, limit);
        x.load(CAR, 10, 8 * Math.abs(units), port, 0);
        x.load(CAR, 10, 8 * Math.abs(otherUnits), otherPort, 0);
        x.drive(0, units < 0 ? 8 : 4, 0);
        x.drive(1, otherUnits < 0 ? 8 : 4, 0);
        return x;
    }

    private static void lean() {
        promise(23, "lean");
        says("over the loads ABOARD whose PORT is k or more", () -> {
            FerryDeck x = leaning(1000, 10, 1, -3, 2);
            due(7, x, "lean", 0);
            due(7, x, "lean", 1);
            due(-3, x, "lean", 2);
        });
        says("over the loads ABOARD, none", () -> {
            for (int leg = 0; leg < 3; leg++) due(0, threeLanes(), "lean", leg);
        });
        says("over the loads ABOARD, not those at the QUAY", () -> {
            FerryDeck x = leaning(1000, 10, 3);
            car(x, 2);
            due(13, x, "lean", 0);
            x.out(1, 0);
            due(10, x, "lean", 0);
        });
        says("over the loads ABOARD whose PORT is k or more, also if the day hasn't it", () -> {
            FerryDeck x = leaning(1000, 10, 1, 5, 11);
            due(15, x, "lean", 0);
            due(5, x, "lean", 2);
        });
        says("0 if that is none of 0 .. P - 1, below 0", () -> {
            for (int leg : new int[] {-1, LOWEST}) due(0, leaning(1000, 10, 3), "lean", leg);
        });
        says("0 if that is none of 0 .. P - 1, P or more", () -> {
            for (int leg : new int[] {3, 4, 11, 12, HIGHEST}) due(0, leaning(1000, 10, 1, 5, 11), "lean", leg);
        });
        says("or it ended already (at SEA: it is below the next port)", () -> {
            FerryDeck x = leaning(1000, 10, 1, -3, 2);
            x.sail();
            due(7, x, "lean", 0);
            x.arrive();
            due(0, x, "lean", 0);
            due(7, x, "lean", 1);
            due(-3, x, "lean", 2);
            x.arrive();
            due(0, x, "lean", 0);
            due(0, x, "lean", 1);
            due(-3, x, "lean", 2);
        });
        says("or it ended already, at the QUAY none did", () -> {
            FerryDeck x = leaning(1000, 10, 1, -3, 2);
            x.sail();
            for (int i = 0; i < 3; i++) x.arrive();
            x.load(CAR, 10, 40, 2, 0);
            x.drive(2, 4, 0);
            for (int leg = 0; leg < 3; leg++) due(5, x, "lean", leg);
        });
        says("the sum of UNITS times the OFFSET, far beyond an int", () -> {
            FerryDeck x = new FerryDeck();
            x.day(12, MOST_LIMIT);
            for (int lane = 0; lane < 4; lane++) x.lane(lane, 39, 50, lane < 3 ? 1000 : -1000, 1);
            for (int i = 0; i < 40; i++) {
                x.load(COACH, 10, 8_000_000, 11, 0);
                x.drive(i, i / 13, 0);
            }
            due(76_000_000_000L, x, "lean", 0);
            due(76_000_000_000L, x, "lean", 11);
            due(1, x, "sail");
        });
        says("the sum of UNITS times the OFFSET, far below an int", () -> {
            FerryDeck x = new FerryDeck();
            x.lane(0, 40, 50, -1000, 1);
            for (int i = 0; i < 13; i++) {
                x.load(COACH, 10, 8_000_000, 0, 0);
                x.drive(i, 0, 0);
            }
            due(-26_000_000_000L, x, "lean", 0);
            due(LEAN, x, "sail");
            dueWhy(x, 0, -1, 25_999_999_000L, -1);
        });
    }

    private static void sail() {
        promise(24, "sail");
        says("The ship goes to SEA; port 0 is next: 1, an empty ship", () -> {
            FerryDeck x = threeLanes();
            due(1, x, "sail");
            due(1, x, "ship", 0);
            due(0, x, "ship", 1);
        });
        says("STATE: not at the QUAY", () -> {
            refuses(STATE, AT_SEA, "sail");
            dueWhyBehindSail(AT_SEA, 0, 0, 0, -1);
        });
        says("PORTS: a load ABOARD has a PORT of P or more", () -> {
            refuses(PORTS, () -> leaning(1000, 1, 0, 1, 3), "sail");
            refuses(PORTS, () -> leaning(1000, 1, 4, 1, 0), "sail");
            refuses(PORTS, () -> leaning(1000, 1, 0, 1, 11), "sail");
        });
        says("PORTS: a load ABOARD has a PORT of P or more, P - 1 is less", () -> {
            due(1, leaning(1000, 1, 0, 1, 2), "sail");
            FerryDeck x = threeLanes();
            x.day(12, 1000);
            car(x, 11);
            x.drive(0, 0, 0);
            due(1, x, "sail");
        });
        says("PORTS: a load ABOARD, not one at the QUAY", () -> {
            FerryDeck x = rich();
            due(5, x, "of", 4, 4);
            due(1, x, "sail");
        });
        says("PORTS comes ahead of LEAN", () -> refuses(PORTS, () -> leaning(0, 1, 0, 1, 3), "sail"));
        says("PORTS comes ahead of STUCK", () -> {
            refuses(STUCK, () -> stuckCars(1000, 2), "sail");
            refuses(PORTS, () -> stuckCars(1000, 3), "sail");
        });
        says("LEAN: that of a LEG is above LIMIT", () -> {
            refuses(LEAN, () -> leaning(9, 10, 0), "sail");
            refuses(LEAN, () -> leaning(0, 1, 0), "sail");
        });
        says("LEAN: that of a LEG is above LIMIT, at it it isn't", () -> {
            due(1, leaning(10, 10, 0), "sail");
            due(1, leaning(10, 6, 4), "sail");
        });
        says("LEAN: that of a LEG is below - LIMIT", () -> {
            refuses(LEAN, () -> leaning(9, -10, 0), "sail");
            refuses(LEAN, () -> leaning(0, -1, 0), "sail");
        });
        says("LEAN: that of a LEG is below - LIMIT, at it it isn't", () -> {
            due(1, leaning(10, -10, 0), "sail");
            due(1, leaning(10, -6, -4), "sail");
        });
        says("LEAN: that of a LEG, a later one alone", () -> {
            refuses(LEAN, () -> leaning(9, -10, 0, 10, 1), "sail");
            refuses(LEAN, () -> leaning(9, -10, 1, 10, 2), "sail");
            refuses(LEAN, () -> leaning(9, 10, 1, -10, 2), "sail");
        });
        says("LEAN: that of a LEG, all of them at the LIMIT", () -> due(1, leaning(10, -10, 0, 10, 2), "sail"));
        says("LEAN comes ahead of STUCK", () -> {
            refuses(STUCK, () -> stuckCars(2, 2), "sail");
            refuses(LEAN, () -> stuckCars(1, 2), "sail");
        });
        says("UNDO is forgotten", () -> {
            FerryDeck x = rich();
            due(1, x, "sail");
            due(0, x, "ship", 6);
        });
        stuck();
    }

    private static void dueWhyBehindSail(Supplier<FerryDeck> deck, long... want) {
        FerryDeck x = deck.get();
        x.sail();
        dueWhy(x, want);
    }

    /** Two cars of one unit, one for port 0 and one for another, behind a chock in a lane of OFFSET 1. */
    private static FerryDeck stuckCars(long limit, int port) {
        FerryDeck x = new FerryDeck();
        x.lane(4, 5, 50, 1, 1);
        x.day(3, limit);
        car(x, 0);
        car(x, port);
        x.drive(0, 4, 0);
        x.drive(1, 4, 0);
        x.chock(4, 0);
        return x;
    }

    /** Four ports, lane 5 as row() has it. */
    private static FerryDeck lane5(int ends, int... places) {
        FerryDeck x = new FerryDeck();
        x.day(4, MOST_LIMIT);
        row(x, 5, ends, places);
        return x;
    }

    private static void refusesStuck(int ends, int... places) {
        refuses(STUCK, () -> lane5(ends, places), "sail");
        refuses(STUCK, () -> lane5(ends, places), "bound");
    }

    private static void sails(int ends, int... places) {
        due(1, lane5(ends, places), "sail");
    }

    private static void stuck() {
        says("STUCK: no CHOCK in the lane is NEARER to the end than a place of a LEAVER, end 0", () -> {
            refusesStuck(1, EMPTY, CHOCKED, 0, EMPTY, EMPTY);
            refusesStuck(1, CHOCKED, EMPTY, EMPTY, EMPTY, 0);
            sails(1, EMPTY, EMPTY, 0, CHOCKED, EMPTY);
            sails(1, 0, EMPTY, EMPTY, EMPTY, CHOCKED);
        });
        says("STUCK: no CHOCK in the lane is NEARER to the end than a place of a LEAVER, end 1", () -> {
            refusesStuck(2, EMPTY, EMPTY, 0, CHOCKED, EMPTY);
            refusesStuck(2, 0, EMPTY, EMPTY, EMPTY, CHOCKED);
            sails(2, EMPTY, CHOCKED, 0, EMPTY, EMPTY);
            sails(2, CHOCKED, EMPTY, EMPTY, EMPTY, 0);
        });
        says("STUCK: without a CLEAR end, of two ends one is enough", () -> {
            sails(3, EMPTY, CHOCKED, 0, EMPTY, EMPTY);
            sails(3, EMPTY, EMPTY, 0, CHOCKED, EMPTY);
            refusesStuck(3, EMPTY, CHOCKED, 0, CHOCKED, EMPTY);
        });
        says("STUCK: than a place of a LEAVER, a CHOCK between two of them", () -> {
            refusesStuck(3, EMPTY, 0, CHOCKED, 0, EMPTY);
            refusesStuck(1, EMPTY, 0, CHOCKED, 0, EMPTY);
            refusesStuck(2, EMPTY, 0, CHOCKED, 0, EMPTY);
        });
        says("STUCK: than a place of a LEAVER, two of different ports leave by their own ends", () ->
            sails(3, EMPTY, 0, CHOCKED, 1, EMPTY));
        says("STUCK: than a place of a LEAVER, a COACH", () -> {
            refusesStuck(1, CHOCKED, COACH_FOR, SAME_COACH, SAME_COACH, EMPTY);
            sails(1, EMPTY, COACH_FOR, SAME_COACH, SAME_COACH, CHOCKED);
            refusesStuck(2, EMPTY, COACH_FOR, SAME_COACH, SAME_COACH, CHOCKED);
            sails(2, CHOCKED, COACH_FOR, SAME_COACH, SAME_COACH, EMPTY);
        });
        says("STUCK: With LEAVERS, without any a CHOCK hinders nothing", () -> sails(3, CHOCKED, EMPTY, CHOCKED));
        says("STUCK: With LEAVERS, one for another port stands behind a CHOCK", () -> {
            sails(3, 1, CHOCKED, 0);
            refusesStuck(1, 0, CHOCKED, 1);
        });
        says("STUCK: a port would be STUCK when it is come to, the last one", () -> {
            refusesStuck(1, CHOCKED, 3);
            refusesStuck(1, 0, 1, CHOCKED, 3);
        });
        says("STUCK: a CHOCK in another lane hinders nothing", () -> {
            FerryDeck x = lane5(1, EMPTY, 0);
            x.lane(4, 2, 50, 0, 1);
            x.lane(6, 2, 50, 0, 1);
            x.chock(4, 0);
            x.chock(6, 0);
            due(1, x, "sail");
        });
        says("STUCK: lane by lane (0 .. 19), the first and the last lane", () -> {
            for (int lane : new int[] {0, 19}) {
                FerryDeck x = new FerryDeck();
                row(x, lane, 1, CHOCKED, 0);
                due(STUCK, x, "sail");
                dueWhy(x, 0, 0, 0, lane);
            }
        });
    }

    private static void why() {
        promise(25, "why");
        says("of the latest sail(), there was none", () -> dueWhy(new FerryDeck(), 0, 0, 0, -1));
        says("PORTS: 0 the least load", () -> {
            dueWhyBehindSail(() -> leaning(0, 1, 0, 1, 3), 1, 0, 0, -1);
            dueWhyBehindSail(() -> leaning(0, 1, 3, 1, 3), 0, 0, 0, -1);
            FerryDeck x = threeLanes();
            for (int i = 0; i < 4; i++) car(x, i == 0 ? 0 : 5);
            for (int i = 3; i >= 0; i--) if (i != 1) x.drive(i, 2, 0);
            due(PORTS, x, "sail");
            dueWhy(x, 2, 0, 0, -1);
        });
        says("LEAN: 0 the first LEG, 1 1 if it is above the LIMIT, 2 by how many units", () -> {
            dueWhyBehindSail(() -> leaning(9, 10, 0), 0, 1, 1, -1);
            dueWhyBehindSail(() -> leaning(9, -10, 0, 17, 1), 1, 1, 8, -1);
            dueWhyBehindSail(() -> leaning(9, -10, 1, 17, 2), 2, 1, 8, -1);
            dueWhyBehindSail(() -> leaning(0, 1, 2, 1, 1), 0, 1, 2, -1);
        });
        says("LEAN: 0 the first LEG, 1 -1 if below - LIMIT, 2 by how many units", () -> {
            dueWhyBehindSail(() -> leaning(9, -10, 0), 0, -1, 1, -1);
            dueWhyBehindSail(() -> leaning(9, 10, 0, -17, 1), 1, -1, 8, -1);
            dueWhyBehindSail(() -> leaning(9, 10, 1, -17, 2), 2, -1, 8, -1);
            dueWhyBehindSail(() -> leaning(0, -1, 2, -1, 1), 0, -1, 2, -1);
        });
        says("STUCK: 0 the first port, 3 the least lane", () -> {
            FerryDeck x = new FerryDeck();
            x.day(4, 1000);
            row(x, 3, 1, CHOCKED, 2);
            row(x, 7, 1, CHOCKED, 1);
            row(x, 9, 1, CHOCKED, 1);
            row(x, 1, 1, EMPTY, 1);
            due(STUCK, x, "sail");
            dueWhy(x, 1, 0, 0, 7);
            x.lift(7, 0);
            due(STUCK, x, "sail");
            dueWhy(x, 1, 0, 0, 9);
            x.lift(9, 0);
            due(STUCK, x, "sail");
            dueWhy(x, 2, 0, 0, 3);
            x.lift(3, 0);
            due(1, x, "sail");
            dueWhy(x, 0, 0, 0, -1);
        });
        says("In all other cases 0, 0, 0, -1, it answered 1", () -> {
            FerryDeck x = leaning(9, 4, 0, 8, 1);
            x.sail();
            dueWhy(x, 0, 1, 3, -1);
            x.undo();
            due(1, x, "sail");
            dueWhy(x, 0, 0, 0, -1);
        });
        says("In all other cases 0, 0, 0, -1, it answered STATE", () -> {
            FerryDeck x = leaning(9, 4, 0, 8, 1);
            x.undo();
            x.keep(0);
            x.sail();
            x.keep(1);
            x.back(0);
            x.drive(1, 4, 0);
            due(LEAN, x, "sail");
            x.back(1);
            dueWhy(x, 0, 1, 3, -1);
            due(STATE, x, "sail");
            dueWhy(x, 0, 0, 0, -1);
        });
        says("-1 for another what", () -> {
            for (int what : new int[] {-1, LOWEST, 4, HIGHEST}) {
                due(-1, new FerryDeck(), "why", what);
                due(-1, rich(), "why", what);
            }
        });
        says("of the latest sail(), other calls leave it", () -> {
            FerryDeck x = leaning(9, 4, 0, 8, 1);
            x.sail();
            x.bound();
            x.step(3, 0, 0, 0);
            x.check();
            x.undo();
            x.undo();
            x.least();
            x.arrive();
            dueWhy(x, 0, 1, 3, -1);
        });
    }

    private static void bound() {
        promise(29, "bound");
        says("how many are MOVED in all, none", () -> {
            due(0, new FerryDeck(), "bound");
            due(0, lane5(1, 0, 1, 2, 3), "bound");
            due(0, lane5(2, 3, 2, 1, 0), "bound");
        });
        says("how many are MOVED in all, port by port", () -> {
            due(6, lane5(1, 3, 2, 1, 0), "bound");
            due(6, lane5(2, 0, 1, 2, 3), "bound");
            due(0, lane5(3, 0, 1, 2, 3), "bound");
        });
        says("from the next port on", () -> {
            FerryDeck x = lane5(1, 3, 2, 1, 0);
            x.sail();
            int[] bounds = {6, 3, 1, 0};
            for (int want : bounds) {
                due(want, x, "bound");
                x.arrive();
            }
            due(0, x, "bound");
        });
        says("(at the QUAY from port 0 on)", () -> due(1, lane5(1, 1, 0), "bound"));
        says("up to port P - 1", () -> {
            due(1, lane5(1, 4, 3), "bound");
            due(0, lane5(1, 5, 4), "bound");
        });
        says("STUCK: a port would be STUCK when it is come to", () -> {
            refuses(STUCK, () -> lane5(1, CHOCKED, 3), "bound");
            refuses(STUCK, () -> lane5(1, 1, 0, CHOCKED, 3), "bound");
        });
        says("STUCK: a port, none that the day hasn't", () -> due(0, lane5(1, CHOCKED, 4), "bound"));
        says("BOUND of the most ports and the longest lane", () -> {
            FerryDeck x = new FerryDeck();
            x.day(12, 0);
            int[] ports = new int[40];
            for (int i = 0; i < 40; i++) ports[i] = i % 12;
            row(x, 0, 2, ports);
            int want = 0;
            for (int port = 0; port < 12; port++) for (int i = port; i < 40; i++) if (i % 12 > port) want++;
            due(want, x, "bound");
            due(1, x, "sail");
            int sum = 0;
            for (int port = 0; port < 12; port++) sum += x.arrive();
            due(want, x, "ship", 5);
            due(sum, x, "ship", 5);
            due(40, x, "ship", 4);
        });
    }

    private static void ship() {
        promise(30, "ship");
        says("-1 for another what", () -> {
            for (int what : new int[] {-1, LOWEST, 9, HIGHEST}) {
                due(-1, rich(), "ship", what);
                due(-1, atSea(), "ship", what);
            }
        });
        says("0: 0 at the QUAY, 1 at SEA", () -> {
            due(0, rich(), "ship", 0);
            due(1, atSea(), "ship", 0);
        });
        says("1 the next port (-1 at the QUAY)", () -> {
            FerryDeck x = rich();
            due(-1, x, "ship", 1);
            x.sail();
            for (int port = 0; port < 3; port++) {
                due(port, x, "ship", 1);
                x.arrive();
            }
            due(-1, x, "ship", 1);
        });
        says("2 P", () -> due(3, rich(), "ship", 2));
        says("3 loads ABOARD, 4 loads GONE", () -> {
            FerryDeck x = rich();
            x.sail();
            int[][] want = {{4, 0}, {3, 1}, {1, 3}, {0, 4}};
            for (int[] w : want) {
                due(w[0], x, "ship", 3);
                due(w[1], x, "ship", 4);
                x.arrive();
            }
        });
        says("5 how many were MOVED in all, over two days", () -> {
            FerryDeck x = lane5(1, 3, 2, 1, 0);
            due(0, x, "ship", 5);
            x.sail();
            int[] moved = {3, 5, 6, 6};
            for (int want : moved) {
                x.arrive();
                due(want, x, "ship", 5);
            }
            row(x, 6, 1, 1, 0);
            x.sail();
            x.arrive();
            due(7, x, "ship", 5);
        });
        says("6 how many acts can be undone", () -> {
            due(0, threeLanes(), "ship", 6);
            due(5, rich(), "ship", 6);
            due(0, atSea(), "ship", 6);
        });
        says("7 STEPS told", () -> {
            due(0, threeLanes(), "ship", 7);
            due(2, rich(), "ship", 7);
        });
        says("8 lanes that are there, none and all", () -> {
            FerryDeck x = new FerryDeck();
            for (int i = 0; i < 20; i++) {
                due(i, x, "ship", 8);
                x.lane(i, 1, 1, 0, 1);
            }
            due(20, x, "ship", 8);
            x.lane(3, 2, 2, 0, 2);
            due(20, x, "ship", 8);
            x.miss(0);
            due(19, x, "ship", 8);
        });
    }

    public static void main(String[] args) {
        begin(args);
        day();
        lean();
        sail();
        why();
        bound();
        ship();
        end();
    }
}
