/** Promises 34 to 39, told days and images: each sentence that names a boundary case has a test of its own. */
public final class ToldDaysBoundariesTest extends Boundaries {
    private static final int MOST_STEPS = 200;
    private static final int[] NO_PLACES = {-1, LOWEST, 2, HIGHEST};
    private static final int[] NO_OPS = {0, -1, LOWEST, 8, HIGHEST};

    /** 200 steps that are so: a car is driven in and out. */
    private static FerryDeck fullOfSteps() {
        FerryDeck x = threeLanes();
        car(x, 0);
        for (int i = 0; i < MOST_STEPS; i++) x.step(1 + i % 2, 0, 0, 0);
        return x;
    }

    private static void step() {
        promise(34, "step");
        says("A STEP comes behind the others: how many there are", () -> {
            FerryDeck x = new FerryDeck();
            for (int i = 1; i <= MOST_STEPS; i++) due(i, x, "step", 7, 0, 0, 0);
            due(MOST_STEPS, x, "ship", 7);
        });
        says("FULL: there are 200", () -> {
            refuses(FULL, ToldDaysBoundariesTest::fullOfSteps, "step", 0, 0, 0, 0);
            FerryDeck x = fullOfSteps();
            for (int i = 0; i < 3; i++) due(FULL, x, "step", 0, 0, 0, 0);
            due(MOST_STEPS, x, "ship", 7);
            due(MOST_STEPS, x, "check");
        });
        says("FULL: there are 200, behind forget() there are none", () -> {
            FerryDeck x = fullOfSteps();
            x.forget();
            due(1, x, "step", 3, 0, 0, 0);
        });
        says("op, a, b, c: any numbers are told", () -> {
            FerryDeck x = new FerryDeck();
            for (int number : new int[] {LOWEST, -1, 0, HIGHEST}) x.step(number, number, number, number);
            due(4, x, "ship", 7);
            due(0, x, "check");
        });
        says("may be told at SEA", () -> due(3, atSea(), "step", 4, 0, 0, 0));
    }

    private static void forget() {
        promise(35, "forget");
        says("No STEP is told: how many were, none", () -> {
            due(0, new FerryDeck(), "forget");
            FerryDeck x = rich();
            due(2, x, "forget");
            due(0, x, "forget");
        });
        says("No STEP is told: how many were, 200", () -> {
            FerryDeck x = fullOfSteps();
            due(MOST_STEPS, x, "forget");
            due(0, x, "ship", 7);
        });
        says("No STEP is told: none is checked", () -> {
            FerryDeck x = rich();
            due(2, x, "check");
            x.forget();
            due(0, x, "check");
            x.step(0, 0, 0, 0);
            due(0, x, "check");
        });
    }

    /** The steps are told on top of none, each four numbers; the check answers so many. */
    private static void dueCheck(int want, FerryDeck x, int[]... steps) {
        x.forget();
        for (int[] s : steps) x.step(s[0], s[1], s[2], s[3]);
        due(want, x, "check");
    }

    private static int[] told(int op, int a, int b, int c) {
        return new int[] {op, a, b, c};
    }

    private static void check() {
        promise(36, "check");
        says("How many of the STEPS are so, there are none", () -> dueCheck(0, rich()));
        says("How many of the STEPS are so, the first one isn't", () ->
            dueCheck(0, rich(), told(4, 0, 0, 0), told(2, 1, 0, 0)));
        says("How many of the STEPS are so, the last one isn't", () ->
            dueCheck(2, rich(), told(2, 1, 0, 0), told(7, 0, 0, 0), told(4, 0, 0, 0)));
        says("How many of the STEPS are so, from the first one on", () ->
            dueCheck(1, rich(), told(2, 1, 0, 0), told(0, 0, 0, 0), told(7, 0, 0, 0)));
        says("How many of the STEPS are so, 200 of 200", () -> due(MOST_STEPS, fullOfSteps(), "check"));
        says("one behind the other, from the ship as it is", () -> {
            FerryDeck x = rich();
            due(2, x, "check");
            x.out(1, 0);
            due(0, x, "check");
            x.undo();
            due(2, x, "check");
        });
        ops();
        moreOps();
        nothingIsChanged();
    }

    private static void ops() {
        says("Op 1: drive(a, b, c) answers 0 or more, 0", () -> {
            FerryDeck x = threeLanes();
            car(x, 0);
            dueCheck(1, x, told(1, 0, 2, 1));
        });
        says("Op 1: drive(a, b, c) answers 0 or more, it is refused", () -> {
            for (int[] s : new int[][] {{1, 6, 0, 0}, {1, 0, 0, 0}, {1, 4, 3, 0}, {1, 4, 0, 1}, {1, 5, 2, 0}})
                dueCheck(0, rich(), s);
        });
        says("2: out(a, b) answers 1", () -> dueCheck(1, rich(), told(2, 3, 1, 0)));
        says("2: out(a, b) answers 1, it is refused", () -> {
            for (int[] s : new int[][] {{2, 6, 0, 0}, {2, 4, 0, 0}, {2, 1, 1, 0}, {2, 0, 0, 0}, {2, 1, 2, 0}})
                dueCheck(0, rich(), s);
        });
        says("3: sail() answers 1", () -> dueCheck(1, rich(), told(3, 0, 0, 0)));
        says("3: sail() answers 1, it is refused", () -> {
            dueCheck(0, atSea(), told(3, 0, 0, 0));
            dueCheck(1, rich(), told(1, 4, 2, 0), told(3, 0, 0, 0));
            dueCheck(1, rich(), told(3, 0, 0, 0), told(3, 0, 0, 0));
        });
        says("4: arrive() answers a", () -> {
            dueCheck(3, atSea(), told(4, 0, 0, 0), told(4, 0, 0, 0), told(3, 0, 0, 0));
            dueCheck(2, rich(), told(3, 0, 0, 0), told(4, 2, 0, 0));
        });
        says("4: arrive() answers a, another number", () -> {
            for (int a : new int[] {1, 3, 0, LOWEST, HIGHEST}) dueCheck(1, rich(), told(3, 0, 0, 0), told(4, a, 0, 0));
        });
        says("4: a is 0 or more, a refusal is never so", () -> {
            dueCheck(0, rich(), told(4, STATE, 0, 0));
            dueCheck(0, new FerryDeck(), told(4, STATE, 0, 0));
        });
        says("5: moved(a) is b", () -> dueCheck(2, atSea(), told(5, 0, 1, 0), told(5, 1, 0, 0)));
        says("5: moved(a) is b, another load", () -> {
            for (int b : new int[] {0, 2, LOWEST, HIGHEST}) dueCheck(0, atSea(), told(5, 0, b, 0));
        });
        says("5: b isn't -1", () -> {
            for (int a : new int[] {-1, 2, LOWEST, HIGHEST}) dueCheck(0, atSea(), told(5, a, -1, 0));
            dueCheck(0, new FerryDeck(), told(5, 0, -1, 0));
        });
        says("6: left(a) is b", () -> dueCheck(1, atSea(), told(6, 0, 2, 0)));
        says("6: left(a) is b, another load", () -> {
            for (int b : new int[] {0, 1, LOWEST, HIGHEST}) dueCheck(0, atSea(), told(6, 0, b, 0));
        });
        says("6: b isn't -1", () -> {
            for (int a : new int[] {-1, 1, LOWEST, HIGHEST}) dueCheck(0, atSea(), told(6, a, -1, 0));
            dueCheck(0, new FerryDeck(), told(6, 0, -1, 0));
        });
    }

    private static void moreOps() {
        says("7: undo() answers 1", () -> {
            int[] undo = told(7, 0, 0, 0);
            dueCheck(5, rich(), undo, undo, undo, undo, undo);
        });
        says("7: undo() answers 1, there is none", () -> {
            int[] undo = told(7, 0, 0, 0);
            dueCheck(5, rich(), undo, undo, undo, undo, undo, undo);
            dueCheck(0, atSea(), undo);
            dueCheck(1, rich(), told(3, 0, 0, 0), undo);
        });
        says("All other ops are never so", () -> {
            for (int op : NO_OPS) {
                dueCheck(0, rich(), told(op, 1, 0, 0));
                dueCheck(0, atSea(), told(op, 0, 0, 0));
                dueCheck(1, rich(), told(3, 0, 0, 0), told(op, 2, 0, 0));
            }
        });
        says("(Numbers that aren't named count nothing.)", () -> {
            for (int any : new int[] {LOWEST, -1, HIGHEST}) {
                dueCheck(6, rich(), told(2, 1, 0, any), told(7, any, any, any), told(3, any, any, any),
                        told(4, 2, any, any), told(5, 0, 1, any), told(6, 0, 2, any));
            }
        });
        says("one behind the other: ports, what was MOVED and what left", () -> {
            FerryDeck x = rich();
            dueCheck(12, x, told(3, 0, 0, 0), told(4, 2, 0, 0), told(5, 0, 1, 0), told(5, 1, 0, 0), told(6, 0, 2, 0),
                    told(4, 0, 0, 0), told(6, 0, 1, 0), told(6, 1, 0, 0), told(4, 0, 0, 0), told(6, 0, 3, 0),
                    told(3, 0, 0, 0), told(4, 0, 0, 0), told(6, 0, 3, 0));
        });
        says("one behind the other: acts that steps do are undone by steps", () -> {
            FerryDeck x = rich();
            dueCheck(4, x, told(1, 4, 2, 0), told(1, 5, 2, 0), told(7, 0, 0, 0), told(2, 4, 0, 0));
            dueCheck(3, x, told(1, 4, 2, 0), told(7, 0, 0, 0), told(1, 4, 2, 0), told(1, 5, 1, 1));
        });
    }

    private static void nothingIsChanged() {
        says("Nothing is changed by that (neither what found(), again() and why() tell)", () -> {
            changesNothing(2, RICH, "check");
            changesNothing(0, AT_SEA, "check");
            changesNothing(3, () -> {
                FerryDeck x = rich();
                x.forget();
                for (int[] s : new int[][] {{3, 0, 0, 0}, {4, 2, 0, 0}, {4, 0, 0, 0}, {1, 9, 9, 9}})
                    x.step(s[0], s[1], s[2], s[3]);
                return x;
            }, "check");
        });
        says("neither what again() tells, of a drive that is refused", () -> {
            changesNothing(0, () -> {
                FerryDeck x = rich();
                x.forget();
                x.step(1, 9, 9, 9);
                return x;
            }, "check");
            FerryDeck y = threeLanes();
            dueCheck(0, y, told(1, 0, 0, 0));
            due(FOUND, y, "again");
        });
        says("neither what why() tells, of a sail() that is refused or not", () -> {
            changesNothing(2, () -> {
                FerryDeck x = leaning();
                x.sail();
                x.step(2, 0, 0, 0);
                x.step(3, 0, 0, 0);
                return x;
            }, "check");
            FerryDeck y = leaning();
            y.sail();
            dueWhy(y, 0, -1, 9000, -1);
            dueCheck(2, y, told(2, 0, 0, 0), told(3, 0, 0, 0));
            dueWhy(y, 0, -1, 9000, -1);
            FerryDeck z = leaning();
            dueCheck(0, z, told(3, 0, 0, 0));
            dueWhy(z, 0, 0, 0, -1);
        });
    }

    /** A car of 10,000 units in lane 0, OFFSET -1, where the LIMIT is 1000. */
    private static FerryDeck leaning() {
        FerryDeck x = threeLanes();
        x.load(CAR, 10, 80_000, 0, 0);
        x.drive(0, 0, 0);
        return x;
    }

    private static void keep() {
        promise(37, "keep");
        says("in place 0 or 1: true", () -> {
            FerryDeck x = threeLanes();
            due(YES, x, "keep", 0);
            due(YES, x, "keep", 1);
            due(YES, x, "back", 0);
            due(YES, x, "back", 1);
        });
        says("false for another place", () -> {
            for (int place : NO_PLACES) {
                changesNothing(NO, RICH, "keep", place);
                FerryDeck x = threeLanes();
                due(NO, x, "keep", place);
                for (int i = 0; i < 2; i++) due(NO, x, "back", i);
                for (int i : NO_PLACES) due(NO, x, "back", i);
            }
        });
        says("each place for itself", () -> {
            FerryDeck x = threeLanes();
            x.keep(0);
            x.lane(3, 5, 50, 0, 1);
            x.keep(1);
            x.lane(4, 5, 50, 0, 1);
            int[] lanes = {3, 4};
            for (int place : new int[] {0, 1, 0, 1}) {
                x.back(place);
                due(lanes[place], x, "ship", 8);
            }
        });
        says("is kept anew, in place of what was kept", () -> {
            FerryDeck x = rich();
            x.keep(0);
            x.undo();
            x.back(0);
            due(5, x, "ship", 6);
            due(6, x, "loads");
        });
        says("All that there is, but STEPS", () -> {
            FerryDeck x = rich();
            x.keep(1);
            x.step(3, 0, 0, 0);
            x.back(1);
            due(3, x, "ship", 7);
            x.forget();
            x.back(1);
            due(0, x, "ship", 7);
        });
        says("All that there is, but the sheet", () -> {
            FerryDeck x = rich();
            x.keep(1);
            x.copy(2, 0, 5);
            x.back(1);
            int[] want = {NOTHING, NOTHING, 3, 3, 3, 0};
            for (int i = 0; i < want.length; i++) due(want[i], x, "sheet", i);
        });
        says("All that there is, but what found() tells", () -> {
            FerryDeck x = rich();
            x.keep(1);
            x.sheet(40);
            x.back(1);
            due(BEYOND, x, "found", 0);
            due(1, x, "found", BEYOND);
            due(1, x, "found", IS_MISSING);
        });
        says("All that there is, but what again() tells", () -> {
            FerryDeck x = rich();
            x.keep(1);
            x.drive(4, 9, 0);
            x.back(1);
            due(MISSING, x, "again");
        });
        says("All that there is, but what why() tells", () -> {
            FerryDeck x = rich();
            x.keep(1);
            dueWhy(x, 4, 0, 0, -1);
            x.sail();
            x.back(1);
            dueWhy(x, 0, 0, 0, -1);
        });
        says("All that there is, but what is kept", () -> {
            FerryDeck x = threeLanes();
            x.keep(0);
            x.lane(3, 5, 50, 0, 1);
            x.keep(1);
            x.back(0);
            due(3, x, "ship", 8);
            due(YES, x, "back", 1);
            due(4, x, "ship", 8);
        });
    }

    private static void back() {
        promise(38, "back");
        says("false if nothing is", () -> {
            for (int place = 0; place < 2; place++) due(NO, threeLanes(), "back", place);
            changesNothing(NO, RICH, "back", 1);
            changesNothing(NO, AT_SEA, "back", 1);
        });
        says("false for another place", () -> {
            for (int place : NO_PLACES) changesNothing(NO, RICH, "back", place);
        });
        says("(it stays kept)", () -> {
            FerryDeck x = rich();
            x.keep(1);
            for (int i = 0; i < 3; i++) {
                x.sail();
                x.arrive();
                car(x, 1);
                due(YES, x, "back", 1);
                due(0, x, "ship", 0);
                due(4, x, "ship", 3);
                due(6, x, "loads");
                due(5, x, "ship", 6);
            }
        });
        says("What is kept is again: at once behind keep() nothing is changed", () -> {
            changesNothing(YES, () -> keptTwice(rich()), "back", 1);
            changesNothing(YES, () -> keptTwice(atSea()), "back", 1);
        });
        says("What is kept is again: lanes, chocks and loads", () -> {
            FerryDeck x = rich();
            x.keep(1);
            while (x.undo() == 1) {
                continue;
            }
            for (int i = 0; i < 3; i++) x.miss(i);
            x.lane(5, 40, 50, 0, 1);
            x.load(CART, 10, 8, 0, 3);
            x.back(1);
            due(3, x, "ship", 8);
            dueRow(x, 0, NOTHING, NOTHING, 1, 0, 2);
            dueRow(x, 1, NOTHING, NOTHING, NOTHING, NOTHING, A_CHOCK);
            dueRow(x, 2, NOTHING, NOTHING, 3, 3, 3);
            due(-1, x, "of", 3, 8);
            due(FOUND, x, "of", 6, 0);
            due(TAKEN, x, "miss", 1);
            due(6, x, "load", CAR, 10, 8, 0, 0);
        });
        says("What is kept is again: P, LIMIT and the next port", () -> {
            FerryDeck x = leaning();
            x.keep(0);
            x.undo();
            x.day(5, 10_000);
            x.sail();
            x.arrive();
            x.keep(1);
            x.back(0);
            due(3, x, "ship", 2);
            due(-1, x, "ship", 1);
            due(LEAN, x, "sail");
            x.back(1);
            due(5, x, "ship", 2);
            due(1, x, "ship", 1);
            for (int i = 0; i < 4; i++) x.arrive();
            x.drive(0, 0, 0);
            due(1, x, "sail");
        });
        says("What is kept is again: what was MOVED and left, and how many in all", () -> {
            FerryDeck x = rich();
            x.sail();
            x.keep(0);
            x.arrive();
            x.keep(1);
            x.arrive();
            dueLoads(x, "moved");
            x.back(1);
            dueLoads(x, "moved", 1, 0);
            dueLoads(x, "left", 2);
            due(2, x, "ship", 5);
            x.back(0);
            dueLoads(x, "moved");
            dueLoads(x, "left");
            due(0, x, "ship", 5);
        });
        says("What is kept is again: THE PLAN, or none", () -> {
            FerryDeck x = threeLanes();
            car(x, 0);
            x.keep(0);
            x.least();
            x.keep(1);
            x.miss(0);
            x.least();
            due(1, x, "planned", 0, 0);
            x.back(1);
            due(0, x, "planned", 0, 0);
            due(4, x, "planned", 0, 1);
            x.back(0);
            due(-1, x, "planned", 0, 0);
        });
        says("What is kept is again: THE PLAN, of another load", () -> {
            FerryDeck x = threeLanes();
            car(x, 0);
            x.least();
            x.keep(0);
            x.drive(0, 2, 1);
            x.sail();
            for (int i = 0; i < 3; i++) x.arrive();
            car(x, 0);
            x.least();
            due(-1, x, "planned", 0, 0);
            due(0, x, "planned", 1, 0);
            x.back(0);
            due(0, x, "planned", 0, 0);
            due(4, x, "planned", 0, 1);
            due(-1, x, "planned", 1, 0);
        });
        says("What is kept is again: UNDO, each act as it was", () -> {
            FerryDeck x = rich();
            x.lift(1, 4);
            x.out(3, 1);
            x.keep(1);
            while (x.undo() == 1) {
                continue;
            }
            for (int i = 0; i < 5; i++) x.chock(2, i);
            x.lift(2, 1);
            x.lift(2, 0);
            x.drive(4, 2, 0);
            x.back(1);
            due(7, x, "ship", 6);
            due(1, x, "undo");
            dueRow(x, 2, NOTHING, NOTHING, 3, 3, 3);
            due(1, x, "undo");
            due(A_CHOCK, x, "at", 1, 4);
            due(1, x, "undo");
            due(NOTHING, x, "at", 1, 4);
            for (int load : new int[] {3, 1, 0, 2}) {
                due(ABOARD, x, "of", load, 5);
                due(1, x, "undo");
                due(AT_QUAY, x, "of", load, 5);
            }
            due(NUMBER, x, "undo");
            due(0, x, "ship", 3);
        });
        says("What is kept is again: UNDO, the latest 100", () -> {
            FerryDeck x = threeLanes();
            for (int i = 0; i < 51; i++) {
                x.chock(0, 0);
                x.lift(0, 0);
            }
            x.chock(1, 1);
            x.keep(0);
            for (int i = 0; i < 60; i++) x.undo();
            x.chock(2, 2);
            x.back(0);
            for (int i = 0; i < 100; i++) due(1, x, "undo");
            due(NUMBER, x, "undo");
            due(A_CHOCK, x, "at", 0, 0);
            due(NOTHING, x, "at", 1, 1);
            due(NOTHING, x, "at", 2, 2);
        });
        says("What is kept is again: 400 loads and none", () -> {
            FerryDeck x = new FerryDeck();
            x.keep(0);
            for (int i = 0; i < 400; i++) car(x, 0);
            x.keep(1);
            x.back(0);
            due(0, x, "loads");
            due(0, x, "load", VAN, 10, 8, 3, 0);
            x.back(1);
            due(FULL, x, "load", CAR, 10, 8, 0, 0);
            int[] want = {CAR, 1, 10, 1, 0, AT_QUAY, -1, -1, -1};
            for (int what = 0; what < 9; what++) due(want[what], x, "of", 0, what);
            for (int what = 0; what < 9; what++) due(want[what], x, "of", 399, what);
        });
        says("What is kept is again: a load that was told later is none, its number is given anew", () -> {
            FerryDeck x = threeLanes();
            car(x, 0);
            x.keep(0);
            x.load(CAR, 20, 80, 5, 0);
            x.load(COACH, 20, 80, 5, 0);
            x.load(CART, 10, 8, 0, 2);
            x.drive(2, 2, 0);
            x.drive(3, 2, 0);
            x.back(0);
            due(1, x, "loads");
            for (int load = 1; load < 4; load++) due(NUMBER, x, "drive", load, 2, 0);
            due(NUMBER, x, "load", CART, 10, 8, 0, 1);
            due(0, x, "least");
            due(-1, x, "planned", 1, 0);
            int[] want = {VAN, 1, 20, 2, 1, AT_QUAY, -1, -1, -1};
            for (int load = 1; load < 4; load++) {
                due(load, x, "load", VAN, 10, 16, 1, 0);
                for (int what = 0; what < 9; what++) due(want[what], x, "of", load, what);
            }
            due(4, x, "load", CART, 10, 8, 0, 2);
            due(2, x, "drawer", 4);
            due(0, x, "ship", 3);
        });
    }

    private static FerryDeck keptTwice(FerryDeck x) {
        x.keep(0);
        x.keep(1);
        return x;
    }

    private static void found() {
        promise(39, "found");
        says("-1 for another what", () -> {
            for (int what : new int[] {-1, LOWEST, 7, HIGHEST}) {
                due(-1, rich(), "found", what);
                due(-1, new FerryDeck(), "found", what);
            }
        });
        says("0 the latest FINDING (0 none yet)", () -> {
            FerryDeck x = threeLanes();
            due(0, x, "found", 0);
            x.sheet(-1);
            due(BEYOND, x, "found", 0);
            x.again();
            due(NONE, x, "found", 0);
            x.told(9, 0);
            due(IS_MISSING, x, "found", 0);
        });
        says("1 .. 6 how many there were of each", () -> {
            FerryDeck x = threeLanes();
            car(x, 0);
            for (int i = 0; i < 6; i++) {
                for (int n = 0; n <= i; n++) {
                    if (i == 0) due(FOUND, x, "at", 9, 0);
                    if (i == 1) due(FOUND, x, "at", 20, 0);
                    if (i == 2) due(FOUND, x, "lane", 0, -1, 0, 0, 0);
                    if (i == 3) due(FOUND, x, "more", 0);
                    if (i == 4) due(FOUND, x, "copy", 0, 0, 6);
                    if (i == 5) due(FOUND, x, "again");
                    due(i + 1, x, "found", 0);
                }
                for (int j = 0; j < 6; j++) due(j <= i ? j + 1 : 0, x, "found", j + 1);
            }
        });
        says("FINDINGS are those of calls that say so, other refusals are none", () -> {
            FerryDeck x = threeLanes();
            x.drive(0, 20, 0);
            x.drive(0, 9, 0);
            x.chock(20, 0);
            x.chock(9, 0);
            x.miss(9);
            x.free(9, 0);
            x.load(CART, 10, 0, 0, 0);
            x.undo();
            x.told(20, 5);
            x.of(0, 9);
            x.planned(0, 0);
            x.near(0, 1);
            x.moved(0);
            for (int i = 0; i <= 6; i++) due(0, x, "found", i);
        });
        says("how many there were of each, a hundred", () -> {
            FerryDeck x = new FerryDeck();
            for (int i = 0; i < 100; i++) due(FOUND, x, "sheet", 40);
            due(100, x, "found", BEYOND);
        });
    }

    public static void main(String[] args) {
        begin(args);
        step();
        forget();
        check();
        keep();
        back();
        found();
        end();
    }
}
