import java.util.function.Supplier;

/** Promises 31 to 33, plans: each sentence that names a boundary case has a test of its own. */
public final class PlansBoundariesTest extends Boundaries {
    private static final int[] NO_LOADS = {-1, LOWEST, 6, 399, 400, HIGHEST};

    /** So many lanes of 5 places, so many cars at the QUAY, both ports of the day in turn. */
    private static FerryDeck cars(int lanes, int loads) {
        FerryDeck x = new FerryDeck();
        for (int i = 0; i < lanes; i++) x.lane(i, 5, 50, 0, 1);
        x.day(2, 1000);
        for (int i = 0; i < loads; i++) car(x, i % 2);
        return x;
    }

    /** A plan was found, then other things were told of which one stands in the way of the next plan. */
    private static Supplier<FerryDeck> planned(int what) {
        return () -> {
            FerryDeck x = cars(3, 1);
            x.least();
            x.chock(0, 0);
            x.lift(0, 0);
            if (what == 0) x.sail();
            if (what == 1) x.drive(0, 1, 0);
            if (what == 2) x.chock(2, 3);
            if (what == 3) x.load(CAR, 10, 0, 2, 0);
            return x;
        };
    }

    private static void duePlan(FerryDeck x, int... lanesAndPlaces) {
        for (int i = 0; i < lanesAndPlaces.length; i += 2) {
            due(lanesAndPlaces[i], x, "planned", i / 2, 0);
            due(lanesAndPlaces[i + 1], x, "planned", i / 2, 1);
        }
    }

    private static void leastRefused(String call) {
        says("STATE: not at the QUAY, " + call, () -> {
            refuses(STATE, planned(0), call);
            refuses(STATE, AT_SEA, call);
        });
        says("STATE comes ahead of TAKEN and LARGE, " + call, () -> {
            refuses(STATE, AT_SEA, call);
            refuses(STATE, () -> {
                FerryDeck x = new FerryDeck();
                x.sail();
                return x;
            }, call);
        });
        says("TAKEN: a load is ABOARD, " + call, () -> refuses(TAKEN, planned(1), call));
        says("TAKEN: a CHOCK lies, " + call, () -> refuses(TAKEN, planned(2), call));
        says("TAKEN: a CHOCK lies, in the first or in the last lane, " + call, () -> {
            for (int lane : new int[] {0, 19})
                refuses(TAKEN, () -> {
                    FerryDeck x = cars(1, 1);
                    x.lane(19, 5, 50, 0, 1);
                    x.chock(lane, 4);
                    return x;
                }, call);
        });
        says("TAKEN comes ahead of LARGE, " + call, () -> {
            refuses(TAKEN, () -> {
                FerryDeck x = cars(4, 7);
                x.chock(3, 0);
                return x;
            }, call);
            refuses(TAKEN, () -> {
                FerryDeck x = cars(1, 1);
                x.drive(0, 0, 0);
                return x;
            }, call);
        });
        says("LARGE: not one to three lanes are there, none, " + call, () -> refuses(LARGE, () -> cars(0, 1), call));
        says("LARGE: not one to three lanes are there, four and twenty, " + call, () -> {
            refuses(LARGE, () -> cars(4, 1), call);
            refuses(LARGE, () -> cars(20, 1), call);
        });
        says("LARGE: not one to three lanes are there, one to three are, " + call, () -> {
            for (int lanes = 1; lanes <= 3; lanes++) due(0, cars(lanes, 1), call);
        });
        says("LARGE: not one to six loads at the QUAY, none, " + call, () -> refuses(LARGE, () -> cars(3, 0), call));
        says("LARGE: not one to six loads at the QUAY, seven, " + call, () -> refuses(LARGE, () -> cars(3, 7), call));
        says("LARGE: not one to six loads at the QUAY, one to six are, " + call, () -> {
            for (int loads = 1; loads <= 6; loads++) due(0, cars(3, loads), call);
        });
        says("LARGE comes ahead of PORTS, " + call, () -> refuses(LARGE, () -> {
            FerryDeck x = cars(4, 1);
            x.load(CAR, 10, 0, 11, 0);
            return x;
        }, call));
        says("PORTS: one of these has a PORT of P or more, " + call, () -> {
            refuses(PORTS, planned(3), call);
            for (int port : new int[] {2, 3, 11})
                refuses(PORTS, () -> {
                    FerryDeck x = cars(1, 2);
                    car(x, port);
                    car(x, 0);
                    return x;
                }, call);
        });
        says("PORTS: one of these has a PORT of P or more, the first one, " + call, () -> refuses(PORTS, () -> {
            FerryDeck x = cars(1, 0);
            car(x, 2);
            car(x, 0);
            return x;
        }, call));
        says("PORTS: one of these has a PORT of P or more, P - 1 is less, " + call, () -> {
            FerryDeck x = cars(1, 1);
            car(x, 1);
            due(0, x, call);
        });
        says("PORTS comes ahead of NEVER, " + call, () -> refuses(PORTS, () -> {
            FerryDeck x = cars(1, 1);
            x.load(CAR, 51, 0, 2, 0);
            return x;
        }, call));
        says("loads at the QUAY: those that are GONE count for nothing, " + call, () -> {
            FerryDeck x = cars(3, 6);
            car(x, 1);
            for (int i = 0; i < 5; i++) x.drive(i, 0, 0);
            x.drive(5, 1, 0);
            x.sail();
            x.arrive();
            x.arrive();
            x.day(1, 1000);
            due(PORTS, x, call);
            x.day(2, 1000);
            due(0, x, call);
            due(-1, x, "planned", 5, 0);
            due(0, x, "planned", 6, 0);
        });
        never(call);
    }

    /** One lane has room for a coach alone, the other one, of some length, is too low for it. */
    private static FerryDeck coachThenAnimal(int coachLane, int animalLane, int length) {
        FerryDeck x = new FerryDeck();
        x.lane(coachLane, 3, 30, 0, 1);
        x.lane(animalLane, length, 29, 0, 1);
        x.load(COACH, 10, 0, 0, 0);
        car(x, 0);
        x.load(ANIMAL, 10, 0, 0, 1);
        return x;
    }

    /** Behind a plan for car 0 in lane 0 of 5 places, HEIGHT 50, OFFSET 1: another load is told, or the lane anew. */
    private static FerryDeck withPlan() {
        FerryDeck x = new FerryDeck();
        x.lane(0, 5, 50, 1, 1);
        x.load(CAR, 10, 80, 0, 0);
        due(0, x, "least");
        due(0, x, "planned", 0, 0);
        return x;
    }

    private static void dueNever(FerryDeck x, String call) {
        x.chock(0, 0);
        x.lift(0, 0);
        due(NEVER, x, call);
        due(-1, x, "planned", 0, 0);
        due(-1, x, "planned", 0, 1);
        due(0, x, "ship", 3);
        due(2, x, "ship", 6);
        dueWhy(x, 0, 0, 0, -1);
        for (int i = 0; i <= 6; i++) due(0, x, "found", i);
        due(FOUND, x, "again");
    }

    private static void never(String call) {
        says("NEVER: none is GOOD (THE PLAN is none then), HIGH, " + call, () -> {
            FerryDeck x = withPlan();
            x.load(CAR, 51, 0, 0, 0);
            dueNever(x, call);
            FerryDeck y = withPlan();
            y.load(CAR, 50, 0, 0, 0);
            due(0, y, call);
        });
        says("NEVER: none is GOOD (THE PLAN is none then), ROOM, " + call, () -> {
            for (int cars = 1; cars <= 2; cars++) {
                FerryDeck x = withPlan();
                x.load(COACH, 10, 0, 0, 0);
                for (int i = 0; i < cars; i++) x.load(CAR, 10, 0, 0, 0);
                if (cars == 2) dueNever(x, call);
                else due(0, x, call);
            }
        });
        says("NEVER: none is GOOD (THE PLAN is none then), BEHIND, " + call, () -> {
            FerryDeck x = new FerryDeck();
            x.lane(0, 5, 50, 0, 1);
            car(x, 0);
            x.load(CART, 10, 0, 0, 0);
            x.drive(0, 0, 0);
            x.sail();
            x.arrive();
            due(GONE, x, "of", 0, 5);
            dueNever(x, call);
        });
        says("NEVER: none is GOOD (THE PLAN is none then), BEHIND in another lane, " + call, () -> {
            FerryDeck x = new FerryDeck();
            for (int i = 0; i < 3; i++) x.lane(i, 1, 50, 0, 1);
            car(x, 0);
            x.load(CART, 10, 0, 0, 0);
            dueNever(x, call);
            x.lane(2, 2, 50, 0, 1);
            due(0, x, call);
            duePlan(x, 2, 1, 2, 0);
        });
        says("NEVER: none is GOOD (THE PLAN is none then), NEXT, " + call, () -> {
            FerryDeck x = withPlan();
            x.load(COACH, 10, 0, 0, 0);
            x.load(ANIMAL, 10, 0, 0, 1);
            dueNever(x, call);
            FerryDeck y = new FerryDeck();
            y.lane(0, 5, 50, 0, 1);
            y.load(COACH, 10, 0, 0, 0);
            y.load(ANIMAL, 10, 0, 0, 0);
            dueNever(y, call);
        });
        says("NEVER: none is GOOD (THE PLAN is none then), NEXT in lanes that differ by one, " + call, () -> {
            for (int lane = 0; lane < 19; lane += 6) {
                due(NEVER, coachThenAnimal(lane, lane + 1, 2), call);
                due(0, coachThenAnimal(lane, lane + 1, 5), call);
                due(NEVER, coachThenAnimal(lane + 1, lane, 2), call);
                due(0, coachThenAnimal(lane + 1, lane, 5), call);
            }
            due(0, coachThenAnimal(4, 6, 2), call);
            due(0, coachThenAnimal(6, 4, 2), call);
            due(0, coachThenAnimal(0, 19, 2), call);
            due(0, coachThenAnimal(19, 0, 2), call);
        });
        says("NEVER: none is GOOD (THE PLAN is none then), LEAN, " + call, () -> {
            FerryDeck x = withPlan();
            x.day(1, 9);
            dueNever(x, call);
            FerryDeck y = withPlan();
            y.day(1, 10);
            due(0, y, call);
            FerryDeck z = withPlan();
            z.lane(0, 5, 50, -1, 1);
            z.day(1, 9);
            dueNever(z, call);
            z.day(1, 10);
            due(0, z, call);
        });
    }

    private static void least() {
        promise(31, "least");
        leastRefused("least");
        says("LEAST is found: nothing is driven", () -> {
            FerryDeck x = cars(3, 6);
            x.chock(0, 0);
            x.lift(0, 0);
            due(0, x, "least");
            due(0, x, "ship", 3);
            due(2, x, "ship", 6);
        });
        says("all by end 0, where that isn't OPEN by end 1", () -> {
            int[] places = {4, 0, 4};
            for (int ends = 1; ends <= 3; ends++) {
                FerryDeck x = new FerryDeck();
                x.lane(3, 5, 50, 0, ends);
                car(x, 0);
                due(0, x, "least");
                duePlan(x, 3, places[ends - 1]);
            }
        });
        says("one of the least COST, none is MOVED", () -> {
            FerryDeck x = cars(1, 2);
            due(0, x, "least");
            duePlan(x, 0, 3, 0, 4);
            FerryDeck y = new FerryDeck();
            y.lane(0, 5, 50, 0, 1);
            y.day(2, 1000);
            car(y, 1);
            car(y, 0);
            due(0, y, "least");
            duePlan(y, 0, 4, 0, 3);
        });
        says("one of the least COST, some must be MOVED", () -> {
            FerryDeck x = coachAheadOfAnimal(1);
            due(2, x, "least");
            duePlan(x, 0, 2, 0, 1, 0, 0);
            due(0, coachAheadOfAnimal(3), "least");
        });
        says("Its COST is the BOUND then, one in the way of two that leave at one port is MOVED once", () -> {
            FerryDeck x = new FerryDeck();
            x.lane(0, 8, 50, 0, 1);
            x.day(2, 1000);
            for (int i = 0; i < 2; i++) x.load(COACH, 10, 0, 0, 0);
            car(x, 1);
            x.load(ANIMAL, 10, 0, 0, 2);
            due(2, x, "least");
            due(2, x, "stow");
            due(2, x, "bound");
        });
        says("Its COST is the BOUND then, by the end with fewer in the way of all that leave", () -> {
            FerryDeck x = new FerryDeck();
            x.lane(0, 3, 50, 0, 3);
            x.day(3, 1000);
            car(x, 0);
            car(x, 2);
            car(x, 0);
            due(0, x, "least");
            duePlan(x, 0, 0, 0, 2, 0, 1);
        });
        says("the lower lane counts ahead of the PLACE", () -> {
            FerryDeck x = new FerryDeck();
            x.lane(0, 3, 50, 0, 2);
            x.lane(1, 3, 50, 0, 2);
            x.day(3, 1000);
            car(x, 1);
            x.load(COACH, 10, 0, 1, 0);
            car(x, 2);
            due(0, x, "least");
            duePlan(x, 0, 1, 1, 0, 0, 0);
        });
        says("of several the one in which the load with the least number has the lower lane", () -> {
            FerryDeck x = new FerryDeck();
            x.lane(19, 5, 50, 0, 1);
            x.lane(4, 1, 50, 0, 1);
            x.lane(11, 1, 50, 0, 1);
            for (int i = 0; i < 3; i++) car(x, 0);
            due(0, x, "least");
            duePlan(x, 4, 0, 11, 0, 19, 4);
        });
        says("or, in one lane, the lower PLACE", () -> {
            for (int ends = 1; ends <= 3; ends++) {
                FerryDeck x = new FerryDeck();
                x.lane(0, 3, 50, 0, ends);
                for (int i = 0; i < 3; i++) car(x, 0);
                due(0, x, "least");
                duePlan(x, 0, 0, 0, 1, 0, 2);
            }
        });
        says("the load with the least number for which they differ: its lane counts ahead of all PLACES", () -> {
            FerryDeck x = cars(2, 0);
            for (int i = 0; i < 6; i++) car(x, 0);
            due(0, x, "least");
            duePlan(x, 0, 0, 0, 1, 0, 2, 0, 3, 0, 4, 1, 4);
        });
        says("the COST counts ahead of lane and PLACE", () -> {
            FerryDeck x = new FerryDeck();
            x.lane(0, 3, 50, 0, 1);
            x.lane(1, 3, 50, 0, 1);
            x.day(2, 1000);
            x.load(COACH, 10, 0, 0, 0);
            car(x, 1);
            x.load(ANIMAL, 10, 0, 0, 1);
            due(NEVER, x, "least");
            x.lane(1, 5, 50, 0, 1);
            due(0, x, "least");
            duePlan(x, 0, 0, 1, 4, 1, 3);
        });
        says("the ship would sail: each LEG counts", () -> {
            FerryDeck x = new FerryDeck();
            x.lane(0, 5, 50, -1, 3);
            x.lane(1, 5, 50, 1, 3);
            x.day(3, 8);
            x.load(CAR, 10, 128, 0, 0);
            x.load(CAR, 10, 64, 2, 0);
            due(0, x, "least");
            duePlan(x, 0, 4, 1, 4);
            x.day(3, 7);
            due(NEVER, x, "least");
        });
        says("the ship would sail: each LEG counts, in whichever order the loads were told", () -> {
            int[][] orders = {{0, 1, 2}, {0, 2, 1}, {1, 0, 2}, {1, 2, 0}, {2, 0, 1}, {2, 1, 0}};
            for (int[] ports : orders) {
                due(0, threePorts(ports, 8, 16, 16, 8), "least");
                due(NEVER, threePorts(ports, 7, 16, 16, 8), "least");
                due(0, threePorts(ports, 9, 2, 2, 9), "least");
                due(NEVER, threePorts(ports, 8, 2, 2, 9), "least");
                due(0, threePorts(ports, 9, 5, 14, 5), "least");
                due(NEVER, threePorts(ports, 8, 5, 14, 5), "least");
                due(0, threePorts(ports, 9, 10, 1, 0), "least");
                due(NEVER, threePorts(ports, 8, 10, 1, 0), "least");
            }
        });
        says("the most of everything: three lanes, six loads, a COST that isn't 0", () -> {
            FerryDeck x = new FerryDeck();
            for (int i = 0; i < 3; i++) x.lane(i, 5, i == 1 ? 1 : 50, 0, 1);
            x.day(12, 1000);
            for (int i = 0; i < 2; i++) x.load(COACH, 10, 8, 0, 0);
            for (int i = 2; i < 6; i += 2) {
                car(x, 11);
                x.load(ANIMAL, 10, 8, 0, i);
            }
            due(4, x, "least");
            duePlan(x, 0, 2, 2, 2, 0, 1, 0, 0, 2, 1, 2, 0);
        });
    }

    /** Three cars for these ports, a lane on each side; so many units are for port 0, for port 1 and for port 2. */
    private static FerryDeck threePorts(int[] ports, int limit, int... units) {
        FerryDeck x = new FerryDeck();
        x.lane(3, 5, 50, -1, 3);
        x.lane(4, 5, 50, 1, 3);
        x.day(3, limit);
        for (int port : ports) x.load(CAR, 10, 8 * units[port], port, 0);
        return x;
    }

    /** The animal must not stand by the coach, so the car for port 1 that draws it stands between. */
    private static FerryDeck coachAheadOfAnimal(int ends) {
        FerryDeck x = new FerryDeck();
        x.lane(0, 5, 50, 0, ends);
        x.day(2, 1000);
        x.load(COACH, 10, 0, 0, 0);
        car(x, 1);
        x.load(ANIMAL, 10, 0, 0, 1);
        return x;
    }

    private static void planned() {
        promise(32, "planned");
        says("-1 if it isn't in it, there is no PLAN", () -> {
            due(-1, new FerryDeck(), "planned", 0, 0);
            due(-1, cars(1, 1), "planned", 0, 0);
        });
        says("-1 if it isn't in it, a load that was told later", () -> {
            FerryDeck x = cars(1, 1);
            x.least();
            car(x, 0);
            for (int what = 0; what < 2; what++) due(-1, x, "planned", 1, what);
        });
        says("-1 if it isn't in it, no such load", () -> {
            for (int load : NO_LOADS)
                for (int what = 0; what < 2; what++) {
                    FerryDeck x = cars(3, 6);
                    x.least();
                    due(-1, x, "planned", load, what);
                }
        });
        says("-1 for another what", () -> {
            for (int what : new int[] {-1, LOWEST, 2, HIGHEST}) {
                FerryDeck x = cars(3, 6);
                x.least();
                due(-1, x, "planned", 0, what);
                due(-1, x, "planned", 6, what);
            }
        });
        says("0 its lane, 1 its PLACE, of the first and of the last load", () -> {
            FerryDeck x = cars(3, 6);
            x.least();
            duePlan(x, 0, 0, 0, 2, 0, 1, 0, 3, 1, 4, 0, 4);
        });
        says("THE PLAN is the LEAST that was found last, refused calls leave it", () -> {
            FerryDeck x = cars(3, 1);
            x.least();
            car(x, 2);
            due(PORTS, x, "least");
            due(PORTS, x, "stow");
            duePlan(x, 0, 4, -1, -1);
            x.miss(0);
            x.day(3, 1000);
            duePlan(x, 0, 4, -1, -1);
            due(0, x, "least");
            duePlan(x, 1, 3, 1, 4);
        });
        says("THE PLAN is the LEAST that was found last, it stays when its loads are driven and GONE", () -> {
            FerryDeck x = cars(1, 1);
            x.stow();
            duePlan(x, 0, 4);
            x.sail();
            x.arrive();
            x.arrive();
            duePlan(x, 0, 4);
        });
    }

    private static void stow() {
        promise(33, "stow");
        leastRefused("stow");
        says("As least(): its COST, and it is THE PLAN", () -> {
            FerryDeck x = coachAheadOfAnimal(1);
            due(2, x, "stow");
            duePlan(x, 0, 2, 0, 1, 0, 0);
            due(2, x, "bound");
            due(1, x, "sail");
        });
        says("and then the loads are driven so", () -> {
            FerryDeck x = coachAheadOfAnimal(2);
            due(2, x, "stow");
            dueRow(x, 0, 0, 0, 0, 1, 2);
            for (int load = 0; load < 3; load++) {
                due(ABOARD, x, "of", load, 5);
                due(0, x, "of", load, 6);
            }
            due(3, x, "told", 0, 4);
            due(3, x, "ship", 3);
            due(TAKEN, x, "miss", 0);
        });
        says("and then the loads are driven so, six in three lanes", () -> {
            FerryDeck x = cars(3, 6);
            due(0, x, "stow");
            for (int load = 0; load < 6; load++) {
                due(x.planned(load, 0), x, "of", load, 6);
                due(x.planned(load, 1), x, "of", load, 7);
                due(load, x, "at", x.planned(load, 0), x.planned(load, 1));
            }
            due(6, x, "ship", 3);
            due(TAKEN, x, "stow");
        });
        says("UNDO is forgotten if it answers 0 or more", () -> {
            FerryDeck x = cars(1, 1);
            x.chock(0, 0);
            x.lift(0, 0);
            due(0, x, "stow");
            due(0, x, "ship", 6);
            due(NUMBER, x, "undo");
            FerryDeck y = coachAheadOfAnimal(1);
            y.chock(0, 0);
            y.lift(0, 0);
            due(2, y, "stow");
            due(0, y, "ship", 6);
        });
        says("again() and why() tell nothing of it", () -> {
            FerryDeck x = cars(1, 2);
            x.stow();
            due(FOUND, x, "again");
            dueWhy(x, 0, 0, 0, -1);
        });
    }

    public static void main(String[] args) {
        begin(args);
        least();
        planned();
        stow();
        end();
    }
}
