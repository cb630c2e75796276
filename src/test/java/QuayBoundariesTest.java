import java.util.function.Supplier;

/** Promises 18 to 21, at the quay: each sentence that names a boundary case has a test of its own. */
public final class QuayBoundariesTest extends Boundaries {
    private static final int[] NO_LOADS = {-1, LOWEST, 6, 399, 400, HIGHEST};
    private static final int[] NO_ENDS = {-1, LOWEST, 2, HIGHEST};
    private static final int MOST_ACTS = 100;

    private static void driveRefusedEarly() {
        promise(18, "drive");
        says("NUMBER: there is no such load", () -> {
            for (int load : NO_LOADS) refuses(NUMBER, RICH, "drive", load, 2, 0);
            refuses(NUMBER, THREE_LANES, "drive", 0, 2, 0);
        });
        says("NUMBER: lane isn't 0 .. 19", () -> {
            for (int lane : new int[] {-1, LOWEST, 20, HIGHEST}) refuses(NUMBER, RICH, "drive", 4, lane, 0);
        });
        says("NUMBER: lane isn't 0 .. 19, the first and the last one are", () -> {
            FerryDeck x = new FerryDeck();
            for (int i = 0; i < 2; i++) {
                x.lane(19 * i, 1, 50, 0, 1);
                car(x, 0);
                due(0, x, "drive", i, 19 * i, 0);
            }
        });
        says("NUMBER: end not 0, 1", () -> {
            for (int end : NO_ENDS) refuses(NUMBER, RICH, "drive", 4, 2, end);
        });
        says("NUMBER comes ahead of STATE", () -> {
            refuses(NUMBER, AT_SEA, "drive", 6, 2, 0);
            refuses(NUMBER, AT_SEA, "drive", 4, 20, 0);
            refuses(NUMBER, AT_SEA, "drive", 4, 2, 2);
        });
        says("NUMBER comes ahead of TAKEN, MISSING and END", () -> {
            refuses(NUMBER, RICH, "drive", 0, 20, 0);
            refuses(NUMBER, RICH, "drive", 0, 2, 2);
            refuses(NUMBER, RICH, "drive", 4, 3, -1);
            refuses(NUMBER, RICH, "drive", 6, 3, 0);
        });
        says("STATE: not at the QUAY", () -> refuses(STATE, AT_SEA, "drive", 4, 2, 0));
        says("STATE comes ahead of TAKEN and MISSING", () -> {
            refuses(STATE, AT_SEA, "drive", 0, 2, 0);
            refuses(STATE, AT_SEA, "drive", 2, 2, 0);
            refuses(STATE, AT_SEA, "drive", 4, 3, 0);
        });
        says("TAKEN: the load isn't at the QUAY, it is ABOARD", () -> {
            for (int load = 0; load < 4; load++) refuses(TAKEN, RICH, "drive", load, 2, 0);
        });
        says("TAKEN: the load isn't at the QUAY, it is GONE", () -> {
            refuses(TAKEN, QuayBoundariesTest::dayBehind, "drive", 2, 2, 0);
            refuses(TAKEN, QuayBoundariesTest::dayBehind, "drive", 3, 2, 0);
        });
        says("TAKEN comes ahead of MISSING and END", () -> {
            refuses(TAKEN, RICH, "drive", 0, 3, 0);
            refuses(TAKEN, RICH, "drive", 0, 0, 1);
        });
        says("MISSING", () -> {
            refuses(MISSING, RICH, "drive", 4, 3, 0);
            refuses(MISSING, RICH, "drive", 4, 3, 1);
            refuses(MISSING, RICH, "drive", 5, 19, 0);
        });
        says("END: not OPEN", () -> {
            refuses(END, RICH, "drive", 4, 0, 1);
            refuses(END, RICH, "drive", 4, 1, 0);
        });
    }

    /** The ship of rich() behind its day: loads 0 .. 3 are GONE. */
    private static FerryDeck dayBehind() {
        FerryDeck x = atSea();
        x.arrive();
        x.arrive();
        return x;
    }

    /**
     * Lane 0: 5 places, HEIGHT 30, end 0. Lane 1: one place, HEIGHT 30, both ends. Load 0 a car of 31, 1 a car of 30,
     * 2 and 3 vans of 21 and 20, 4 and 5 coaches of 11 and 10, 6 a cart of 31 behind the car 1, 7 one of 30 behind 0.
     */
    private static FerryDeck highLoads() {
        FerryDeck x = new FerryDeck();
        x.lane(0, 5, 30, 0, 1);
        x.lane(1, 1, 30, 0, 3);
        x.load(CAR, 31, 0, 0, 0);
        x.load(CAR, 30, 0, 0, 0);
        x.load(VAN, 21, 0, 0, 0);
        x.load(VAN, 20, 0, 0, 0);
        x.load(COACH, 11, 0, 0, 0);
        x.load(COACH, 10, 0, 0, 0);
        x.load(CART, 31, 0, 0, 1);
        x.load(CART, 30, 0, 0, 0);
        return x;
    }

    private static FerryDeck highLoadsWithCar() {
        FerryDeck x = highLoads();
        x.drive(1, 1, 0);
        return x;
    }

    private static void driveHigh() {
        says("HIGH: TALL is above the HEIGHT", () -> {
            refuses(HIGH, QuayBoundariesTest::highLoads, "drive", 0, 0, 0);
            refuses(HIGH, QuayBoundariesTest::highLoads, "drive", 2, 0, 0);
            refuses(HIGH, QuayBoundariesTest::highLoads, "drive", 4, 0, 0);
        });
        says("HIGH: TALL is above the HEIGHT, at it it isn't", () -> {
            due(4, highLoads(), "drive", 1, 0, 0);
            due(4, highLoads(), "drive", 3, 0, 0);
            due(2, highLoads(), "drive", 5, 0, 0);
        });
        says("HIGH: TALL is above the HEIGHT, the most of both", () -> {
            FerryDeck x = new FerryDeck();
            x.lane(0, 3, 1000, 0, 1);
            x.load(VAN, 991, 0, 0, 0);
            x.load(VAN, 990, 0, 0, 0);
            due(HIGH, x, "drive", 0, 0, 0);
            due(2, x, "drive", 1, 0, 0);
        });
        says("END comes ahead of HIGH", () -> refuses(END, QuayBoundariesTest::highLoads, "drive", 0, 0, 1));
        says("HIGH comes ahead of ROOM", () -> {
            refuses(HIGH, QuayBoundariesTest::highLoadsWithCar, "drive", 0, 1, 0);
            refuses(HIGH, QuayBoundariesTest::highLoads, "drive", 4, 1, 0);
        });
        says("HIGH comes ahead of BEHIND", () -> refuses(HIGH, QuayBoundariesTest::highLoads, "drive", 6, 0, 0));
        says("ROOM: the WAY is shorter than its SPAN, it has no place", () -> {
            FerryDeck x = highLoadsWithCar();
            due(ROOM, x, "drive", 3, 1, 0);
            due(ROOM, x, "drive", 3, 1, 1);
            refuses(ROOM, RICH, "drive", 4, 2, 1);
            refuses(ROOM, RICH, "drive", 4, 1, 1);
        });
        says("ROOM: the WAY is shorter than its SPAN, a COACH and lanes of one to three places", () -> {
            FerryDeck x = new FerryDeck();
            x.load(COACH, 10, 0, 0, 0);
            for (int length = 1; length < 3; length++) {
                x.lane(0, length, 50, 0, 3);
                due(ROOM, x, "drive", 0, 0, 0);
                due(ROOM, x, "drive", 0, 0, 1);
            }
            x.lane(0, 3, 50, 0, 3);
            due(0, x, "drive", 0, 0, 0);
            x.undo();
            due(0, x, "drive", 0, 0, 1);
        });
        says("ROOM: the WAY is shorter than its SPAN, a COACH and a CHOCK on the way", () -> {
            for (int place = 0; place < 5; place++) {
                FerryDeck x = threeLanes();
                x.load(COACH, 10, 0, 0, 0);
                x.chock(2, place);
                due(place < 3 ? ROOM : place - 3, x, "drive", 0, 2, 0);
                FerryDeck y = threeLanes();
                y.load(COACH, 10, 0, 0, 0);
                y.chock(2, place);
                due(place > 1 ? ROOM : place + 1, y, "drive", 0, 2, 1);
            }
        });
        says("ROOM comes ahead of BEHIND", () -> {
            refuses(ROOM, QuayBoundariesTest::highLoadsWithCar, "drive", 7, 1, 0);
            refuses(ROOM, RICH, "drive", 5, 1, 1);
        });
    }

    private static void driveToItsPlace() {
        says("to those places of the WAY that are deepest: its PLACE, in an empty lane", () -> {
            FerryDeck x = threeLanes();
            car(x, 0);
            x.load(COACH, 10, 0, 0, 0);
            int[][] drives = {{0, 0, 0, 4}, {0, 1, 1, 0}, {0, 2, 0, 4}, {0, 2, 1, 0}, {1, 0, 0, 2}, {1, 1, 1, 0},
                {1, 2, 0, 2}, {1, 2, 1, 0}};
            for (int[] d : drives) {
                due(d[3], x, "drive", d[0], d[1], d[2]);
                for (int i = 0; i < 5; i++) {
                    boolean there = i >= d[3] && i < d[3] + (d[0] == 1 ? 3 : 1);
                    due(there ? d[0] : NOTHING, x, "at", d[1], i);
                }
                x.undo();
            }
        });
        says("to those places of the WAY that are deepest, until the lane is full", () -> {
            for (int end = 0; end < 2; end++) {
                FerryDeck x = threeLanes();
                for (int i = 0; i < 5; i++) {
                    car(x, 0);
                    due(end == 0 ? 4 - i : i, x, "drive", i, 2, end);
                }
                car(x, 0);
                due(ROOM, x, "drive", 5, 2, 0);
                due(ROOM, x, "drive", 5, 2, 1);
            }
        });
        says("to those places of the WAY that are deepest, up to a CHOCK", () -> {
            FerryDeck x = threeLanes();
            for (int i = 0; i < 2; i++) car(x, 0);
            x.chock(2, 2);
            due(1, x, "drive", 0, 2, 0);
            due(3, x, "drive", 1, 2, 1);
        });
        says("A load goes from the QUAY, and is ABOARD", () -> {
            FerryDeck x = rich();
            due(1, x, "drive", 4, 2, 0);
            due(ABOARD, x, "of", 4, 5);
            due(5, x, "ship", 3);
            due(6, x, "ship", 6);
        });
    }

    private static void driveBehindItsDrawer() {
        says("BEHIND: the place behind the WAY's last one is none", () -> {
            for (int end = 0; end < 2; end++) {
                refuses(BEHIND, QuayBoundariesTest::drawn, "drive", 1, 2, end);
                refuses(BEHIND, QuayBoundariesTest::drawn, "drive", 2, 2, end);
            }
            refuses(BEHIND, QuayBoundariesTest::drawn, "drive", 1, 0, 0);
            refuses(BEHIND, QuayBoundariesTest::drawn, "drive", 1, 1, 1);
        });
        says("BEHIND: its DRAWER isn't there, it stands in another lane", () ->
            refuses(BEHIND, drawnBehind(0, 0, 0), "drive", 1, 2, 0));
        says("BEHIND: its DRAWER isn't there, but another load", () -> {
            refuses(BEHIND, drawnBehind(3, 2, 0), "drive", 1, 2, 0);
            refuses(BEHIND, drawnBehind(3, 2, 1), "drive", 1, 2, 1);
        });
        says("BEHIND: its DRAWER isn't there, but a CHOCK", () -> {
            refuses(BEHIND, () -> drawnBehindChock(4), "drive", 1, 2, 0);
            refuses(BEHIND, () -> drawnBehindChock(0), "drive", 1, 2, 1);
        });
        says("BEHIND: its DRAWER isn't there, but a load behind which it stands", () -> {
            FerryDeck x = drawn();
            x.drive(0, 2, 0);
            x.drive(3, 2, 0);
            due(BEHIND, x, "drive", 1, 2, 0);
        });
        says("BEHIND: its DRAWER is there", () -> {
            due(3, drawnBehind(0, 2, 0).get(), "drive", 1, 2, 0);
            due(1, drawnBehind(0, 2, 1).get(), "drive", 1, 2, 1);
            due(3, drawnBehind(0, 0, 0).get(), "drive", 1, 0, 0);
            due(1, drawnBehind(0, 1, 1).get(), "drive", 1, 1, 1);
        });
        says("BEHIND: its DRAWER is there, a COACH", () -> {
            FerryDeck x = threeLanes();
            x.load(COACH, 10, 0, 0, 0);
            x.load(CART, 10, 0, 0, 0);
            x.drive(0, 2, 0);
            due(1, x, "drive", 1, 2, 0);
            x.undo();
            x.undo();
            x.drive(0, 2, 1);
            due(3, x, "drive", 1, 2, 1);
        });
        says("BEHIND: its DRAWER is there, at the WAY's end from the other side", () -> {
            FerryDeck x = drawn();
            x.chock(2, 4);
            due(3, x, "drive", 0, 2, 0);
            x.lift(2, 4);
            due(4, x, "drive", 1, 2, 1);
        });
        says("BEHIND: it is DRAWN, one that isn't needs nothing there", () -> due(4, drawn(), "drive", 3, 2, 0));
        says("BEHIND comes ahead of NEXT", () -> {
            FerryDeck x = drawn();
            x.load(COACH, 10, 0, 0, 0);
            x.drive(4, 1, 1);
            x.chock(2, 3);
            due(BEHIND, x, "drive", 2, 2, 0);
        });
    }

    /** The car 0 draws the cart 1, that one the animal 2; 3 is a car. All are at the QUAY. */
    private static FerryDeck drawn() {
        FerryDeck x = threeLanes();
        car(x, 0);
        x.load(CART, 10, 0, 0, 0);
        x.load(ANIMAL, 10, 0, 0, 1);
        car(x, 0);
        return x;
    }

    private static Supplier<FerryDeck> drawnBehind(int load, int lane, int end) {
        return () -> {
            FerryDeck x = drawn();
            x.drive(load, lane, end);
            return x;
        };
    }

    private static FerryDeck drawnBehindChock(int place) {
        FerryDeck x = drawn();
        x.chock(2, place);
        return x;
    }

    private static void driveAnimalsAndCoaches() {
        says("NEXT: it is an ANIMAL and its place is NEXT to one with a COACH, in lanes that differ by one", () -> {
            for (int lane : new int[] {0, 2})
                for (int place = 0; place < 7; place++) {
                    FerryDeck x = foes(4);
                    coachAt(x, 1, 2);
                    due(place >= 2 && place <= 4 ? NEXT : place, x, "drive", 2, lane, wayForAnimal(x, lane, place));
                }
        });
        says("NEXT: it is an ANIMAL, and a COACH is two lanes away", () -> {
            for (int place = 0; place < 7; place++) {
                FerryDeck x = foes(4);
                coachAt(x, 1, 2);
                due(place, x, "drive", 2, 3, wayForAnimal(x, 3, place));
            }
        });
        says("NEXT: it is an ANIMAL and its place is NEXT to one with a COACH, in one lane", () -> {
            for (int end = 0; end < 2; end++) {
                FerryDeck x = foes(4);
                x.load(ANIMAL, 10, 0, 0, 0);
                x.drive(0, 1, end);
                due(NEXT, x, "drive", 3, 1, end);
            }
        });
        says("NEXT: it is a COACH and a place is NEXT to one with an ANIMAL, in lanes that differ by one", () -> {
            for (int lane : new int[] {0, 2})
                for (int place = 0; place < 5; place++) {
                    FerryDeck x = foes(4);
                    x.drive(2, 1, wayForAnimal(x, 1, 3));
                    chockBehind(x, lane, place + 3);
                    due(place >= 1 && place <= 3 ? NEXT : place, x, "drive", 0, lane, 0);
                }
        });
        says("NEXT: it is a COACH, and an ANIMAL is two lanes away", () -> {
            for (int place = 0; place < 5; place++) {
                FerryDeck x = foes(4);
                x.drive(2, 1, wayForAnimal(x, 1, 3));
                chockBehind(x, 3, place + 3);
                due(place, x, "drive", 0, 3, 0);
            }
        });
        says("NEXT: it is a COACH and a place is NEXT to one with an ANIMAL, in one lane", () -> {
            for (int end = 0; end < 2; end++) {
                FerryDeck x = foes(4);
                x.drive(1, 1, end);
                x.drive(2, 1, end);
                due(NEXT, x, "drive", 0, 1, end);
            }
        });
        says("NEXT: in one lane, one place between is enough", () -> {
            for (int end = 0; end < 2; end++) {
                FerryDeck x = foes(4);
                x.drive(1, 1, end);
                x.drive(2, 1, end);
                car(x, 0);
                x.drive(3, 1, end);
                due(end == 0 ? 1 : 3, x, "drive", 0, 1, end);
            }
        });
        says("NEXT: the first and the last lane aren't NEXT to each other", () -> {
            FerryDeck x = foes(1);
            x.lane(19, 7, 50, 0, 3);
            coachAt(x, 0, 4);
            due(5, x, "drive", 2, 19, wayForAnimal(x, 19, 5));
            FerryDeck y = foes(1);
            y.lane(19, 7, 50, 0, 3);
            y.drive(2, 0, wayForAnimal(y, 0, 5));
            due(4, y, "drive", 0, 19, 0);
        });
        says("NEXT: a lane that is shorter, or MISSING, has nothing beside a place", () -> {
            FerryDeck x = new FerryDeck();
            x.lane(1, 2, 50, 0, 2);
            x.lane(2, 7, 50, 0, 1);
            x.load(COACH, 10, 0, 0, 0);
            car(x, 0);
            x.load(ANIMAL, 10, 0, 0, 1);
            x.drive(1, 1, 1);
            due(1, x, "drive", 2, 1, 1);
            due(4, x, "drive", 0, 2, 0);
        });
        says("NEXT: other KINDS may stand by a COACH or an ANIMAL", () -> {
            FerryDeck x = foes(4);
            x.load(VAN, 10, 0, 0, 0);
            x.load(CART, 10, 0, 0, 0);
            x.load(COACH, 10, 0, 0, 0);
            x.load(ANIMAL, 10, 0, 0, 3);
            due(4, x, "drive", 0, 1, 0);
            due(3, x, "drive", 4, 1, 0);
            due(4, x, "drive", 5, 2, 0);
            x.lane(5, 7, 50, 0, 3);
            x.lane(6, 7, 50, 0, 3);
            due(6, x, "drive", 1, 5, 0);
            due(5, x, "drive", 2, 5, 0);
            due(6, x, "drive", 3, 6, 0);
            due(5, x, "drive", 6, 6, 0);
        });
        says("NEXT changes nothing", () -> refuses(NEXT, () -> {
            FerryDeck x = drawn();
            x.load(COACH, 10, 0, 0, 0);
            x.drive(0, 2, 0);
            x.drive(1, 2, 0);
            x.drive(2, 2, 0);
            return x;
        }, "drive", 4, 1, 1));
    }

    /** So many lanes of 7 places; the coach 0, the car 1 that draws the animal 2. */
    private static FerryDeck foes(int lanes) {
        FerryDeck x = new FerryDeck();
        for (int i = 0; i < lanes; i++) x.lane(i, 7, 50, 0, 3);
        x.load(COACH, 10, 0, 0, 0);
        car(x, 0);
        x.load(ANIMAL, 10, 0, 0, 1);
        return x;
    }

    private static void chockBehind(FerryDeck x, int lane, int place) {
        if (place < 7) x.chock(lane, place);
    }

    private static void coachAt(FerryDeck x, int lane, int place) {
        chockBehind(x, lane, place + 3);
        due(place, x, "drive", 0, lane, 0);
    }

    /** Brings the car 1 to where the animal 2 comes to a place behind it; answers by which end. */
    private static int wayForAnimal(FerryDeck x, int lane, int place) {
        if (place == 6) {
            x.chock(lane, 4);
            due(5, x, "drive", 1, lane, 1);
            return 1;
        }
        chockBehind(x, lane, place + 2);
        due(place + 1, x, "drive", 1, lane, 0);
        return 0;
    }

    private static void out() {
        promise(19, "out");
        says("NUMBER: there is no such load", () -> {
            for (int load : NO_LOADS) refuses(NUMBER, RICH, "out", load, 0);
            refuses(NUMBER, NEW, "out", 0, 0);
        });
        says("NUMBER: end isn't 0, 1", () -> {
            for (int end : NO_ENDS) refuses(NUMBER, RICH, "out", 1, end);
        });
        says("NUMBER comes ahead of STATE", () -> {
            refuses(NUMBER, AT_SEA, "out", 6, 0);
            refuses(NUMBER, AT_SEA, "out", 1, 2);
        });
        says("NUMBER comes ahead of TAKEN", () -> refuses(NUMBER, RICH, "out", 4, 2));
        says("STATE: not at the QUAY", () -> refuses(STATE, AT_SEA, "out", 1, 0));
        says("STATE comes ahead of TAKEN", () -> {
            refuses(STATE, AT_SEA, "out", 4, 0);
            refuses(STATE, AT_SEA, "out", 2, 0);
        });
        says("TAKEN: it isn't ABOARD, but at the QUAY", () -> {
            for (int end = 0; end < 2; end++) refuses(TAKEN, RICH, "out", 4, end);
        });
        says("TAKEN: it isn't ABOARD, but GONE", () -> refuses(TAKEN, QuayBoundariesTest::dayBehind, "out", 3, 0));
        says("END: not OPEN", () -> {
            refuses(END, RICH, "out", 1, 1);
            FerryDeck x = threeLanes();
            car(x, 0);
            x.drive(0, 1, 1);
            due(END, x, "out", 0, 0);
            due(1, x, "out", 0, 1);
        });
        says("END comes ahead of ROOM and DRAWS", () -> refuses(END, RICH, "out", 0, 1));
        says("ROOM: a place that is NEARER to the end than its places isn't empty, a load", () -> {
            refuses(ROOM, RICH, "out", 2, 0);
            refuses(ROOM, QuayBoundariesTest::between, "out", 1, 0);
            refuses(ROOM, QuayBoundariesTest::between, "out", 1, 1);
        });
        says("ROOM: a place that is NEARER to the end than its places isn't empty, a CHOCK", () -> {
            for (int place : new int[] {0, 1, 3, 4}) {
                due(place < 2 ? ROOM : 1, inTheMiddle(CAR, 3, place), "out", 0, 0);
                due(place > 2 ? ROOM : 1, inTheMiddle(CAR, 3, place), "out", 0, 1);
            }
        });
        says("ROOM: a place that is NEARER to the end than its places isn't empty, those of a COACH", () -> {
            for (int place : new int[] {0, 4}) {
                due(place == 0 ? ROOM : 1, inTheMiddle(COACH, 4, place), "out", 0, 0);
                due(place == 4 ? ROOM : 1, inTheMiddle(COACH, 4, place), "out", 0, 1);
            }
        });
        outWithDrawn();
    }

    /** A load that was driven into lane 2 up to a chock; then the chock was laid at another place. */
    private static FerryDeck inTheMiddle(int kind, int chockAtFirst, int chockThen) {
        FerryDeck x = threeLanes();
        x.load(kind, 10, 0, 0, 0);
        x.chock(2, chockAtFirst);
        x.drive(0, 2, 0);
        x.lift(2, chockAtFirst);
        x.chock(2, chockThen);
        return x;
    }

    /** Cars 0, 1, 2 at places 4, 3, 2 of lane 2. */
    private static FerryDeck between() {
        FerryDeck x = threeLanes();
        for (int i = 0; i < 3; i++) {
            car(x, 0);
            x.drive(i, 2, 0);
        }
        return x;
    }

    private static void outWithDrawn() {
        says("ROOM: at the end itself nothing is NEARER", () -> {
            due(1, between(), "out", 0, 1);
            due(1, between(), "out", 2, 0);
            FerryDeck x = threeLanes();
            for (int i = 0; i < 5; i++) {
                car(x, 0);
                x.drive(i, 2, 0);
            }
            due(1, x, "out", 4, 0);
            due(1, x, "out", 0, 1);
            due(ROOM, x, "out", 2, 0);
        });
        says("ROOM comes ahead of DRAWS", () -> refuses(ROOM, RICH, "out", 0, 0));
        says("DRAWS: the load that it draws is ABOARD", () -> refuses(DRAWS, () -> {
            FerryDeck x = drawn();
            x.drive(0, 2, 0);
            x.drive(1, 2, 0);
            return x;
        }, "out", 0, 1));
        says("DRAWS: the load that it draws is ABOARD, at the QUAY it isn't", () -> {
            FerryDeck x = drawn();
            x.drive(0, 2, 0);
            due(1, x, "out", 0, 1);
            due(AT_QUAY, x, "of", 0, 5);
        });
        says("DRAWS: the load that it draws is ABOARD, one that draws none", () -> {
            due(1, rich(), "out", 1, 0);
            due(1, rich(), "out", 3, 0);
            due(1, rich(), "out", 3, 1);
        });
        says("A load goes back to the QUAY: 1, and all its places are empty", () -> {
            FerryDeck x = rich();
            due(1, x, "out", 3, 1);
            dueRow(x, 2, NOTHING, NOTHING, NOTHING, NOTHING, NOTHING);
            due(AT_QUAY, x, "of", 3, 5);
            due(0, x, "told", 2, 4);
            due(6, x, "ship", 6);
        });
    }

    private static void undo() {
        promise(20, "undo");
        says("The latest drive is undone: 1", () -> {
            FerryDeck x = rich();
            due(1, x, "drive", 4, 2, 0);
            due(1, x, "undo");
            due(AT_QUAY, x, "of", 4, 5);
            dueRow(x, 2, NOTHING, NOTHING, 3, 3, 3);
        });
        says("The latest out is undone: 1", () -> {
            FerryDeck x = rich();
            x.out(3, 1);
            due(1, x, "undo");
            due(ABOARD, x, "of", 3, 5);
            dueRow(x, 2, NOTHING, NOTHING, 3, 3, 3);
            due(1, x, "told", 2, 4);
        });
        says("The latest chock is undone: 1", () -> {
            FerryDeck x = rich();
            due(1, x, "undo");
            due(NOTHING, x, "at", 1, 4);
            due(1, x, "miss", 1);
        });
        says("The latest lift is undone: 1", () -> {
            FerryDeck x = rich();
            x.lift(1, 4);
            due(1, x, "undo");
            due(A_CHOCK, x, "at", 1, 4);
            due(TAKEN, x, "miss", 1);
        });
        says("that was not refused", () -> {
            FerryDeck x = rich();
            x.drive(0, 0, 0);
            x.out(0, 0);
            x.chock(0, 4);
            x.lift(0, 0);
            due(5, x, "ship", 6);
            due(1, x, "undo");
            due(NOTHING, x, "at", 1, 4);
        });
        says("and is not undone yet", () -> {
            FerryDeck x = rich();
            for (int i = 5; i > 0; i--) {
                due(i, x, "ship", 6);
                due(1, x, "undo");
            }
            due(0, x, "ship", 3);
            due(0, x, "ship", 6);
            due(NUMBER, x, "undo");
        });
        says("and is not undone yet, an act behind an undone one", () -> {
            FerryDeck x = rich();
            x.undo();
            x.chock(1, 0);
            due(5, x, "ship", 6);
            due(1, x, "undo");
            due(NOTHING, x, "at", 1, 0);
            due(1, x, "undo");
            due(AT_QUAY, x, "of", 3, 5);
        });
        says("STATE: not at the QUAY", () -> refuses(STATE, AT_SEA, "undo"));
        says("NUMBER: there is none", () -> refuses(NUMBER, THREE_LANES, "undo"));
        undoForgotten();
        undoLatestHundred();
    }

    private static void undoForgotten() {
        says("UNDO is forgotten by lane(), miss(), day(), sail() and stow() that aren't refused", () -> {
            for (int i = 0; i < 5; i++) {
                FerryDeck x = threeLanes();
                car(x, 0);
                x.chock(2, 0);
                x.lift(2, 0);
                due(2, x, "ship", 6);
                if (i == 0) due(1, x, "lane", 3, 5, 50, 0, 1);
                if (i == 1) due(1, x, "miss", 2);
                if (i == 2) due(1, x, "day", 3, 1000);
                if (i == 3) due(1, x, "sail");
                if (i == 4) due(0, x, "stow");
                due(0, x, "ship", 6);
                due(i == 3 ? STATE : NUMBER, x, "undo");
            }
        });
        says("UNDO is forgotten by sail(), also when the ship is at the QUAY again", () -> {
            FerryDeck x = dayBehind();
            due(0, x, "ship", 6);
            due(NUMBER, x, "undo");
        });
        says("UNDO isn't forgotten by those that are refused", () -> {
            FerryDeck x = rich();
            due(TAKEN, x, "lane", 0, 5, 50, 0, 1);
            due(TAKEN, x, "miss", 0);
            due(TAKEN, x, "day", 3, 1000);
            due(TAKEN, x, "stow");
            x.drive(4, 2, 0);
            due(PORTS, x, "sail");
            due(6, x, "ship", 6);
            due(1, x, "undo");
        });
        says("UNDO isn't forgotten by other calls", () -> {
            FerryDeck x = threeLanes();
            x.chock(0, 0);
            x.lift(0, 0);
            car(x, 0);
            due(0, x, "least");
            x.forget();
            x.check();
            x.keep(1);
            due(2, x, "ship", 6);
            due(1, x, "undo");
            due(A_CHOCK, x, "at", 0, 0);
        });
    }

    /** Chocks are laid and lifted at place 0 of lane 0, so many acts in all. */
    private static FerryDeck acts(int many) {
        FerryDeck x = threeLanes();
        for (int i = 0; i < many; i++) due(1, x, i % 2 == 0 ? "chock" : "lift", 0, 0);
        return x;
    }

    private static void undoLatestHundred() {
        says("has the latest 100 alone, 99 and 100 are all undone", () -> {
            for (int many = MOST_ACTS - 1; many <= MOST_ACTS; many++) {
                FerryDeck x = acts(many);
                due(many, x, "ship", 6);
                for (int i = 0; i < many; i++) due(1, x, "undo");
                due(NUMBER, x, "undo");
                due(NOTHING, x, "at", 0, 0);
            }
        });
        says("has the latest 100 alone, the first of 101 is not undone", () -> {
            FerryDeck x = acts(MOST_ACTS + 1);
            due(MOST_ACTS, x, "ship", 6);
            for (int i = 0; i < MOST_ACTS; i++) due(1, x, "undo");
            due(0, x, "ship", 6);
            due(NUMBER, x, "undo");
            due(A_CHOCK, x, "at", 0, 0);
        });
        says("has the latest 100 alone, however many there were", () -> {
            FerryDeck x = acts(2 * MOST_ACTS + 51);
            for (int i = 0; i < MOST_ACTS; i++) {
                due(MOST_ACTS - i, x, "ship", 6);
                due(1, x, "undo");
            }
            due(NUMBER, x, "undo");
            due(A_CHOCK, x, "at", 0, 0);
        });
        says("has the latest 100 alone, of all four acts in their order", () -> {
            FerryDeck x = threeLanes();
            x.load(COACH, 10, 0, 0, 0);
            x.chock(1, 3);
            for (int i = 0; i < 26; i++) {
                due(2, x, "drive", 0, 2, 0);
                due(1, x, "out", 0, 1);
                due(1, x, "chock", 2, i % 5);
                due(1, x, "lift", 2, i % 5);
            }
            for (int i = 25; i > 0; i--) {
                due(1, x, "undo");
                due(A_CHOCK, x, "at", 2, i % 5);
                due(1, x, "undo");
                due(NOTHING, x, "at", 2, i % 5);
                due(1, x, "undo");
                due(2, x, "of", 0, 7);
                due(1, x, "undo");
                due(AT_QUAY, x, "of", 0, 5);
            }
            due(NUMBER, x, "undo");
            due(A_CHOCK, x, "at", 1, 3);
        });
    }

    private static void again() {
        promise(21, "again");
        says("FOUND: NONE: there was none yet", () -> {
            FerryDeck x = threeLanes();
            for (int i = 1; i < 3; i++) {
                due(FOUND, x, "again");
                due(NONE, x, "found", 0);
                due(i, x, "found", 6);
            }
        });
        says("FOUND: NONE: there was none yet, other calls' refusals are none", () -> {
            FerryDeck x = threeLanes();
            x.out(0, 0);
            x.undo();
            x.chock(20, 0);
            x.arrive();
            x.at(20, 0);
            x.least();
            due(FOUND, x, "again");
        });
        says("FOUND: NONE: there was none yet, a drive to place 0 is none", () -> {
            FerryDeck x = threeLanes();
            car(x, 0);
            due(0, x, "drive", 0, 2, 1);
            due(FOUND, x, "again");
        });
        says("The latest refusal that drive() answered: it, each of them", () -> {
            FerryDeck x = drawn();
            x.load(COACH, 10, 0, 0, 0);
            x.load(CAR, 51, 0, 0, 0);
            x.drive(0, 2, 0);
            x.drive(1, 2, 0);
            x.drive(2, 2, 0);
            int[][] refused = {{9, 0, 0, NUMBER}, {0, 0, 0, TAKEN}, {3, 9, 0, MISSING}, {3, 0, 1, END},
                {5, 0, 0, HIGH}, {3, 2, 1, ROOM}, {4, 2, 0, ROOM}, {4, 1, 1, NEXT}};
            for (int[] r : refused) {
                due(r[3], x, "drive", r[0], r[1], r[2]);
                due(r[3], x, "again");
            }
            x.sail();
            due(STATE, x, "drive", 3, 0, 0);
            due(STATE, x, "again");
            due(0, x, "found", 6);
        });
        says("The latest refusal that drive() answered, BEHIND", () -> {
            FerryDeck x = drawn();
            due(BEHIND, x, "drive", 1, 2, 0);
            due(BEHIND, x, "again");
        });
        says("The latest refusal that drive() answered, behind drives that aren't refused", () -> {
            FerryDeck x = rich();
            due(TAKEN, x, "again");
            due(1, x, "drive", 4, 2, 0);
            due(TAKEN, x, "again");
            due(0, x, "drive", 5, 2, 0);
            due(TAKEN, x, "again");
        });
        says("is thrown once more, and again and again", () -> {
            FerryDeck x = rich();
            for (int i = 0; i < 3; i++) due(TAKEN, x, "again");
            due(0, x, "found", 6);
            due(IS_MISSING, x, "found", 0);
        });
    }

    public static void main(String[] args) {
        begin(args);
        driveRefusedEarly();
        driveHigh();
        driveToItsPlace();
        driveBehindItsDrawer();
        driveAnimalsAndCoaches();
        out();
        undo();
        again();
        end();
    }
}
