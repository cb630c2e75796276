/** Promises 1 to 11, a new object and the deck: each sentence that names a boundary case has a test of its own. */
public final class DeckBoundariesTest extends Boundaries {
    private static final int[] NO_LANES = {-1, LOWEST, 20, HIGHEST};

    private static void newObject() {
        promise(1, "a new object");
        says("All lanes are MISSING", () -> {
            for (int i = 0; i < 20; i++) due(MISSING, new FerryDeck(), "free", i, 0);
            for (int i = 0; i < 20; i++) finds(IS_MISSING, NEW, "told", i, 0);
            due(0, new FerryDeck(), "ship", 8);
        });
        says("there are no loads", () -> {
            due(0, new FerryDeck(), "loads");
            finds(BEYOND, NEW, "of", 0, 0);
        });
        says("the ship is at the QUAY", () -> {
            due(0, new FerryDeck(), "ship", 0);
            due(-1, new FerryDeck(), "ship", 1);
            refuses(STATE, NEW, "arrive");
        });
        says("P is 1, a PORT of 1 is beyond it", () -> {
            due(1, new FerryDeck(), "ship", 2);
            due(1, oneCar(0, 0), "sail");
            refuses(PORTS, () -> oneCar(1, 0), "sail");
        });
        says("the LIMIT 1000, at it and one beyond it", () -> {
            due(1, oneCar(0, 8000), "sail");
            refuses(LEAN, () -> oneCar(0, 8008), "sail");
        });
        says("nothing is kept", () -> {
            due(NO, new FerryDeck(), "back", 0);
            due(NO, new FerryDeck(), "back", 1);
        });
        says("nothing is told", () -> {
            due(0, new FerryDeck(), "ship", 7);
            due(0, new FerryDeck(), "check");
            due(0, new FerryDeck(), "forget");
        });
        says("nothing is found", () -> {
            for (int i = 0; i <= 6; i++) due(0, new FerryDeck(), "found", i);
        });
        says("nothing is planned", () -> {
            due(-1, oneCar(0, 0), "planned", 0, 0);
            due(-1, oneCar(0, 0), "planned", 0, 1);
        });
        says("what no sentence names is 0 or -1", () -> {
            FerryDeck x = new FerryDeck();
            for (int i = 3; i <= 8; i++) due(0, x, "ship", i);
            dueLoads(x, "moved");
            dueLoads(x, "left");
            dueWhy(x, 0, 0, 0, -1);
            due(0, x, "lean", 0);
            due(0, x, "bound");
        });
    }

    /** A new object with a lane of OFFSET 1 and a car in it. */
    private static FerryDeck oneCar(int port, int weight) {
        FerryDeck x = new FerryDeck();
        x.lane(0, 5, 50, 1, 1);
        x.load(CAR, 10, weight, port, 0);
        x.drive(0, 0, 0);
        return x;
    }

    private static void lane() {
        promise(2, "lane");
        says("NUMBER: i isn't 0 .. 19", () -> {
            for (int i : NO_LANES) refuses(NUMBER, RICH, "lane", i, 5, 50, 0, 1);
        });
        says("NUMBER: i isn't 0 .. 19, the first and the last one are", () -> {
            FerryDeck x = new FerryDeck();
            due(1, x, "lane", 0, 5, 50, 0, 1);
            due(1, x, "lane", 19, 5, 50, 0, 1);
            due(2, x, "ship", 8);
        });
        says("NUMBER: i isn't 0 .. 19; then FOUND (SIZE)", () -> {
            for (int i : NO_LANES) refuses(NUMBER, RICH, "lane", i, -1, 50, 0, 1);
        });
        says("then FOUND (SIZE): length is below 0", () -> {
            finds(SIZE, RICH, "lane", 3, -1, 50, 0, 1);
            finds(SIZE, RICH, "lane", 3, LOWEST, 50, 0, 1);
        });
        says("FOUND (SIZE); then NUMBER", () -> {
            finds(SIZE, RICH, "lane", 3, -1, 0, 0, 1);
            finds(SIZE, RICH, "lane", 3, -1, 50, 1001, 1);
            finds(SIZE, RICH, "lane", 3, -1, 50, 0, 4);
        });
        says("FOUND (SIZE) comes ahead of STATE and TAKEN", () -> {
            finds(SIZE, AT_SEA, "lane", 3, -1, 50, 0, 1);
            finds(SIZE, RICH, "lane", 0, -1, 50, 0, 1);
        });
        says("NUMBER: length isn't 1 .. 40", () -> {
            for (int length : new int[] {0, 41, HIGHEST}) refuses(NUMBER, RICH, "lane", 3, length, 50, 0, 1);
        });
        says("NUMBER: length isn't 1 .. 40, the least and the most are", () -> {
            FerryDeck x = new FerryDeck();
            due(1, x, "lane", 3, 1, 50, 0, 1);
            due(1, x, "free", 3, 0);
            due(1, x, "lane", 3, 40, 50, 0, 1);
            due(40, x, "free", 3, 0);
            due(40, x, "told", 3, 0);
        });
        says("NUMBER: height not 1 .. 1000", () -> {
            for (int height : new int[] {0, -1, LOWEST, 1001, HIGHEST})
                refuses(NUMBER, RICH, "lane", 3, 5, height, 0, 1);
        });
        says("NUMBER: height not 1 .. 1000, the least and the most are", () -> {
            FerryDeck x = new FerryDeck();
            for (int height : new int[] {1, 1000}) {
                due(1, x, "lane", 3, 5, height, 0, 1);
                due(height, x, "told", 3, 1);
            }
        });
        says("NUMBER: offset not -1000 .. 1000", () -> {
            for (int offset : new int[] {-1001, LOWEST, 1001, HIGHEST})
                refuses(NUMBER, RICH, "lane", 3, 5, 50, offset, 1);
        });
        says("NUMBER: offset not -1000 .. 1000, the least and the most are", () -> {
            FerryDeck x = new FerryDeck();
            for (int offset : new int[] {-1000, 0, 1000}) {
                due(1, x, "lane", 3, 5, 50, offset, 1);
                due(offset, x, "told", 3, 2);
            }
        });
        says("NUMBER: ends not 1 .. 3", () -> {
            for (int ends : new int[] {0, -1, LOWEST, 4, HIGHEST}) refuses(NUMBER, RICH, "lane", 3, 5, 50, 0, ends);
        });
        says("NUMBER: ends not 1 .. 3, the least and the most are", () -> {
            FerryDeck x = new FerryDeck();
            for (int ends = 1; ends <= 3; ends++) {
                due(1, x, "lane", 3, 5, 50, 0, ends);
                due(ends, x, "told", 3, 3);
                due(ends == 2 ? END : 5, x, "free", 3, 0);
                due(ends == 1 ? END : 5, x, "free", 3, 1);
            }
        });
        laneInItsState();
    }

    private static void laneInItsState() {
        says("NUMBER comes ahead of STATE", () -> {
            refuses(NUMBER, AT_SEA, "lane", 20, 5, 50, 0, 1);
            refuses(NUMBER, AT_SEA, "lane", 3, 0, 50, 0, 1);
            refuses(NUMBER, AT_SEA, "lane", 3, 5, 0, 0, 1);
            refuses(NUMBER, AT_SEA, "lane", 3, 5, 50, 1001, 1);
            refuses(NUMBER, AT_SEA, "lane", 3, 5, 50, 0, 0);
        });
        says("NUMBER comes ahead of TAKEN", () -> {
            refuses(NUMBER, RICH, "lane", 0, 41, 50, 0, 1);
            refuses(NUMBER, RICH, "lane", 0, 5, 1001, 0, 1);
            refuses(NUMBER, RICH, "lane", 0, 5, 50, -1001, 1);
            refuses(NUMBER, RICH, "lane", 0, 5, 50, 0, 4);
        });
        says("STATE: not at the QUAY", () -> {
            refuses(STATE, AT_SEA, "lane", 3, 5, 50, 0, 1);
            refuses(STATE, AT_SEA, "lane", 1, 5, 50, 0, 1);
        });
        says("STATE comes ahead of TAKEN", () -> refuses(STATE, AT_SEA, "lane", 0, 5, 50, 0, 1));
        says("TAKEN: the lane is there and something is in it, a load", () -> {
            refuses(TAKEN, RICH, "lane", 0, 5, 50, 0, 1);
            refuses(TAKEN, RICH, "lane", 2, 40, 50, 0, 1);
        });
        says("TAKEN: the lane is there and something is in it, a CHOCK", () ->
            refuses(TAKEN, RICH, "lane", 1, 5, 50, 0, 1));
        says("Lane i is there, anew and empty, in place of what it was", () -> {
            FerryDeck x = rich();
            x.lift(1, 4);
            due(1, x, "lane", 1, 3, 20, -7, 3);
            int[] told = {3, 20, -7, 3, 0};
            for (int i = 0; i < 5; i++) due(told[i], x, "told", 1, i);
            dueRow(x, 1, NOTHING, NOTHING, NOTHING, FOUND);
            due(3, x, "ship", 8);
        });
        says("in place of what it was, the places of a longer one are empty", () -> {
            FerryDeck x = new FerryDeck();
            x.lane(3, 2, 50, 0, 1);
            due(1, x, "lane", 3, 40, 50, 0, 1);
            for (int i = 0; i < 40; i++) due(NOTHING, x, "at", 3, i);
        });
        says("UNDO is forgotten", () -> {
            FerryDeck x = rich();
            due(5, x, "ship", 6);
            due(1, x, "lane", 3, 5, 50, 0, 1);
            due(0, x, "ship", 6);
            due(NUMBER, x, "undo");
        });
    }

    private static void miss() {
        promise(3, "miss");
        says("NUMBER: i isn't 0 .. 19", () -> {
            for (int i : NO_LANES) refuses(NUMBER, RICH, "miss", i);
        });
        says("NUMBER: i isn't 0 .. 19, the first and the last one are", () -> {
            FerryDeck x = new FerryDeck();
            x.lane(0, 5, 50, 0, 1);
            x.lane(19, 5, 50, 0, 1);
            due(1, x, "miss", 0);
            due(1, x, "miss", 19);
            due(0, x, "ship", 8);
        });
        says("NUMBER comes ahead of STATE", () -> {
            for (int i : NO_LANES) refuses(NUMBER, AT_SEA, "miss", i);
        });
        says("STATE: not at the QUAY", () -> refuses(STATE, AT_SEA, "miss", 1));
        says("STATE comes ahead of MISSING", () -> refuses(STATE, AT_SEA, "miss", 3));
        says("STATE comes ahead of TAKEN", () -> refuses(STATE, AT_SEA, "miss", 0));
        says("MISSING: it is", () -> refuses(MISSING, RICH, "miss", 3));
        says("MISSING: it is, from now on", () -> {
            FerryDeck x = threeLanes();
            due(1, x, "miss", 2);
            due(MISSING, x, "miss", 2);
            due(MISSING, x, "free", 2, 0);
            due(2, x, "ship", 8);
        });
        says("TAKEN: something is in it, a load", () -> refuses(TAKEN, RICH, "miss", 0));
        says("TAKEN: something is in it, a CHOCK", () -> refuses(TAKEN, RICH, "miss", 1));
        says("TAKEN: something is in it, no longer", () -> {
            FerryDeck x = rich();
            x.out(3, 0);
            x.lift(1, 4);
            due(1, x, "miss", 1);
            due(1, x, "miss", 2);
        });
        says("UNDO is forgotten", () -> {
            FerryDeck x = rich();
            x.out(3, 0);
            due(1, x, "miss", 2);
            due(0, x, "ship", 6);
            due(NUMBER, x, "undo");
        });
    }

    private static void told() {
        promise(4, "told");
        says("NUMBER: another what", () -> {
            for (int what : new int[] {-1, LOWEST, 5, HIGHEST}) refuses(NUMBER, RICH, "told", 0, what);
        });
        says("NUMBER: another what (looked at first)", () -> {
            for (int i : NO_LANES) refuses(NUMBER, RICH, "told", i, 5);
            refuses(NUMBER, RICH, "told", 3, -1);
        });
        says("FOUND: BEYOND: i isn't 0 .. 19", () -> {
            for (int i : NO_LANES) for (int what = 0; what < 5; what++) finds(BEYOND, RICH, "told", i, what);
        });
        says("FOUND: MISSING", () -> {
            for (int what = 0; what < 5; what++) finds(IS_MISSING, RICH, "told", 3, what);
            finds(IS_MISSING, RICH, "told", 19, 0);
        });
        says("4 how many loads are in it, none, a COACH is one, a CHOCK is none", () -> {
            FerryDeck x = rich();
            due(3, x, "told", 0, 4);
            due(0, x, "told", 1, 4);
            due(1, x, "told", 2, 4);
        });
        says("4 how many loads are in it, at SEA those that left are not", () -> due(2, atSea(), "told", 0, 4));
    }

    private static void chock() {
        promise(5, "chock");
        says("NUMBER: lane isn't 0 .. 19", () -> {
            for (int i : NO_LANES) refuses(NUMBER, RICH, "chock", i, 0);
        });
        says("NUMBER: lane isn't 0 .. 19, the first and the last one are", () -> {
            FerryDeck x = new FerryDeck();
            x.lane(0, 5, 50, 0, 1);
            x.lane(19, 5, 50, 0, 1);
            due(1, x, "chock", 0, 0);
            due(1, x, "chock", 19, 0);
        });
        says("NUMBER for the lane comes ahead of STATE", () -> refuses(NUMBER, AT_SEA, "chock", 20, 0));
        says("STATE: not at the QUAY", () -> refuses(STATE, AT_SEA, "chock", 0, 0));
        says("STATE comes ahead of MISSING, of NUMBER for the place and of TAKEN", () -> {
            refuses(STATE, AT_SEA, "chock", 3, 0);
            refuses(STATE, AT_SEA, "chock", 0, 5);
            refuses(STATE, AT_SEA, "chock", 1, 4);
        });
        says("MISSING", () -> refuses(MISSING, RICH, "chock", 3, 0));
        says("MISSING comes ahead of NUMBER for the place", () -> {
            refuses(MISSING, RICH, "chock", 3, -1);
            refuses(MISSING, RICH, "chock", 3, 40);
        });
        says("NUMBER: the lane has no such place", () -> {
            for (int place : new int[] {-1, LOWEST, 5, 40, HIGHEST}) refuses(NUMBER, RICH, "chock", 0, place);
        });
        says("NUMBER: the lane has no such place, the first and the last one it has", () -> {
            FerryDeck x = threeLanes();
            due(1, x, "chock", 0, 0);
            due(1, x, "chock", 0, 4);
            dueRow(x, 0, A_CHOCK, NOTHING, NOTHING, NOTHING, A_CHOCK);
        });
        says("TAKEN: it isn't empty, a CHOCK", () -> refuses(TAKEN, RICH, "chock", 1, 4));
        says("TAKEN: it isn't empty, each part of a load", () -> {
            refuses(TAKEN, RICH, "chock", 0, 4);
            for (int place = 2; place < 5; place++) refuses(TAKEN, RICH, "chock", 2, place);
        });
        says("A CHOCK lies at an empty place: 1, a lane full of them", () -> {
            FerryDeck x = threeLanes();
            for (int place = 0; place < 5; place++) due(1, x, "chock", 2, place);
            due(0, x, "free", 2, 0);
            due(0, x, "free", 2, 1);
            due(5, x, "ship", 6);
        });
    }

    private static void lift() {
        promise(6, "lift");
        says("NUMBER: lane isn't 0 .. 19", () -> {
            for (int i : NO_LANES) refuses(NUMBER, RICH, "lift", i, 0);
        });
        says("NUMBER: lane isn't 0 .. 19, the first and the last one are", () -> {
            FerryDeck x = new FerryDeck();
            for (int i : new int[] {0, 19}) {
                x.lane(i, 5, 50, 0, 1);
                x.chock(i, 0);
                due(1, x, "lift", i, 0);
            }
        });
        says("NUMBER for the lane comes ahead of STATE", () -> refuses(NUMBER, AT_SEA, "lift", 20, 0));
        says("STATE: not at the QUAY", () -> refuses(STATE, AT_SEA, "lift", 1, 4));
        says("STATE comes ahead of MISSING, of NUMBER for the place and of TAKEN", () -> {
            refuses(STATE, AT_SEA, "lift", 3, 0);
            refuses(STATE, AT_SEA, "lift", 0, 5);
            refuses(STATE, AT_SEA, "lift", 0, 0);
        });
        says("MISSING", () -> refuses(MISSING, RICH, "lift", 3, 0));
        says("MISSING comes ahead of NUMBER for the place", () -> {
            refuses(MISSING, RICH, "lift", 3, -1);
            refuses(MISSING, RICH, "lift", 3, 40);
        });
        says("NUMBER: the lane has no such place", () -> {
            for (int place : new int[] {-1, LOWEST, 5, 40, HIGHEST}) refuses(NUMBER, RICH, "lift", 1, place);
        });
        says("NUMBER: the lane has no such place, the first and the last one it has", () -> {
            FerryDeck x = threeLanes();
            for (int place : new int[] {0, 4}) {
                x.chock(0, place);
                due(1, x, "lift", 0, place);
            }
            dueRow(x, 0, NOTHING, NOTHING, NOTHING, NOTHING, NOTHING);
        });
        says("TAKEN: there is no CHOCK, the place is empty", () -> refuses(TAKEN, RICH, "lift", 0, 0));
        says("TAKEN: there is no CHOCK, a load is there", () -> {
            refuses(TAKEN, RICH, "lift", 0, 4);
            refuses(TAKEN, RICH, "lift", 2, 3);
        });
        says("TAKEN: there is no CHOCK, it is taken up already", () -> {
            FerryDeck x = rich();
            due(1, x, "lift", 1, 4);
            due(TAKEN, x, "lift", 1, 4);
            due(6, x, "ship", 6);
        });
    }

    private static void at() {
        promise(7, "at");
        says("a load's number, -1 nothing, -2 a CHOCK", () -> {
            FerryDeck x = rich();
            dueRow(x, 0, NOTHING, NOTHING, 1, 0, 2);
            dueRow(x, 1, NOTHING, NOTHING, NOTHING, NOTHING, A_CHOCK);
            dueRow(x, 2, NOTHING, NOTHING, 3, 3, 3);
        });
        says("FOUND: BEYOND: lane isn't 0 .. 19", () -> {
            for (int i : NO_LANES) finds(BEYOND, RICH, "at", i, 0);
        });
        says("FOUND: BEYOND: lane isn't 0 .. 19, the last one is", () -> {
            FerryDeck x = new FerryDeck();
            x.lane(19, 1, 50, 0, 1);
            due(NOTHING, x, "at", 19, 0);
        });
        says("FOUND: MISSING", () -> {
            finds(IS_MISSING, RICH, "at", 3, 0);
            finds(IS_MISSING, RICH, "at", 19, 0);
        });
        says("FOUND: MISSING comes ahead of BEYOND for the place", () -> {
            finds(IS_MISSING, RICH, "at", 3, -1);
            finds(IS_MISSING, RICH, "at", 3, 40);
        });
        says("FOUND: BEYOND: the lane has no such place", () -> {
            for (int place : new int[] {-1, LOWEST, 5, 39, 40, HIGHEST}) finds(BEYOND, RICH, "at", 0, place);
        });
        says("FOUND: BEYOND: the lane has no such place, the last one of the longest lane it has", () -> {
            FerryDeck x = new FerryDeck();
            x.lane(3, 40, 50, 0, 1);
            due(NOTHING, x, "at", 3, 39);
            due(FOUND, x, "at", 3, 40);
        });
    }

    private static void kindAt() {
        promise(8, "kindAt");
        says("The KIND of the load at a place", () -> {
            FerryDeck x = rich();
            due(CART, x, "kindAt", 0, 2);
            due(CAR, x, "kindAt", 0, 3);
            due(VAN, x, "kindAt", 0, 4);
            for (int place = 2; place < 5; place++) due(COACH, x, "kindAt", 2, place);
            x.drive(4, 1, 1);
            due(FOUND, x, "kindAt", 1, 0);
            x.lift(1, 4);
            x.drive(4, 1, 1);
            x.drive(5, 1, 1);
            due(ANIMAL, x, "kindAt", 1, 1);
        });
        says("FOUND as at(), BEYOND: lane isn't 0 .. 19", () -> {
            for (int i : NO_LANES) finds(BEYOND, RICH, "kindAt", i, 0);
        });
        says("FOUND as at(), MISSING", () -> {
            finds(IS_MISSING, RICH, "kindAt", 3, 0);
            finds(IS_MISSING, RICH, "kindAt", 3, 40);
        });
        says("FOUND as at(), BEYOND: the lane has no such place", () -> {
            for (int place : new int[] {-1, LOWEST, 5, HIGHEST}) finds(BEYOND, RICH, "kindAt", 0, place);
        });
        says("CAST: nothing is there", () -> finds(CAST, RICH, "kindAt", 0, 0));
        says("CAST: a CHOCK is there", () -> finds(CAST, RICH, "kindAt", 1, 4));
    }

    private static void copy() {
        promise(9, "copy");
        says("FOUND: BEYOND: lane isn't 0 .. 19", () -> {
            for (int i : NO_LANES) finds(BEYOND, RICH, "copy", i, 0, 1);
        });
        says("FOUND: BEYOND comes ahead of COPY", () -> {
            for (int i : NO_LANES) finds(BEYOND, RICH, "copy", i, -1, -1);
        });
        says("FOUND: MISSING", () -> finds(IS_MISSING, RICH, "copy", 3, 0, 0));
        says("FOUND: MISSING comes ahead of COPY", () -> {
            finds(IS_MISSING, RICH, "copy", 3, -1, 1);
            finds(IS_MISSING, RICH, "copy", 3, 0, 41);
        });
        says("COPY: from is below 0", () -> {
            finds(COPY, RICH, "copy", 2, -1, 2);
            finds(COPY, RICH, "copy", 2, -1, 0);
            finds(COPY, RICH, "copy", 2, LOWEST, 1);
        });
        says("COPY: n is below 0", () -> {
            finds(COPY, RICH, "copy", 2, 2, -1);
            finds(COPY, RICH, "copy", 2, 0, LOWEST);
        });
        says("COPY: from + n is above the LENGTH", () -> {
            finds(COPY, RICH, "copy", 2, 0, 6);
            finds(COPY, RICH, "copy", 2, 1, 5);
            finds(COPY, RICH, "copy", 2, 5, 1);
        });
        says("COPY: from + n is above the LENGTH, n is 0", () -> finds(COPY, RICH, "copy", 2, 6, 0));
        says("COPY: from + n (by whole numbers without end) is above the LENGTH", () -> {
            finds(COPY, RICH, "copy", 2, HIGHEST, HIGHEST);
            finds(COPY, RICH, "copy", 2, HIGHEST, 1);
            finds(COPY, RICH, "copy", 2, 1, HIGHEST);
            finds(COPY, RICH, "copy", 2, HIGHEST - 2, 5);
        });
        says("COPY: n is above 40", () -> {
            finds(COPY, () -> longLane(), "copy", 3, 0, 41);
            finds(COPY, () -> longLane(), "copy", 3, 0, HIGHEST);
        });
        says("COPY: n is above 40, 40 is not", () -> {
            FerryDeck x = longLane();
            due(40, x, "copy", 3, 0, 40);
            due(A_CHOCK, x, "sheet", 0);
            for (int i = 1; i < 39; i++) due(NOTHING, x, "sheet", i);
            due(A_CHOCK, x, "sheet", 39);
        });
        says("COPY: from + n is above the LENGTH, at it it isn't", () -> {
            FerryDeck x = rich();
            due(5, x, "copy", 2, 0, 5);
            due(1, x, "copy", 0, 4, 1);
            due(2, x, "sheet", 0);
            due(0, x, "copy", 0, 5, 0);
            due(2, x, "sheet", 0);
        });
        says("what else is on the sheet stays", () -> {
            FerryDeck x = rich();
            due(2, x, "copy", 2, 1, 2);
            int[] want = {NOTHING, 3, 1, 0, 2, 0};
            for (int i = 0; i < want.length; i++) due(want[i], x, "sheet", i);
        });
        says("n places, none of them", () -> {
            FerryDeck x = rich();
            due(0, x, "copy", 2, 0, 0);
            int[] want = {NOTHING, NOTHING, 1, 0, 2, 0};
            for (int i = 0; i < want.length; i++) due(want[i], x, "sheet", i);
        });
    }

    /** Lane 3 has 40 places, with a chock at the first and at the last one. */
    private static FerryDeck longLane() {
        FerryDeck x = new FerryDeck();
        x.lane(3, 40, 50, 0, 3);
        x.chock(3, 0);
        x.chock(3, 39);
        return x;
    }

    private static void sheet() {
        promise(10, "sheet");
        says("40 places, all 0 at first", () -> {
            FerryDeck x = new FerryDeck();
            for (int i = 0; i < 40; i++) due(0, x, "sheet", i);
        });
        says("FOUND: BEYOND: i isn't 0 .. 39", () -> {
            for (int i : new int[] {-1, LOWEST, 40, HIGHEST}) finds(BEYOND, RICH, "sheet", i);
        });
    }

    private static void free() {
        promise(11, "free");
        says("How long the WAY is, in an empty lane the LENGTH", () -> {
            due(5, threeLanes(), "free", 2, 0);
            due(5, threeLanes(), "free", 2, 1);
        });
        says("How long the WAY is, 0 if the place of DEPTH 0 isn't empty", () -> {
            FerryDeck x = threeLanes();
            x.chock(2, 0);
            due(0, x, "free", 2, 0);
            due(4, x, "free", 2, 1);
            x.chock(2, 4);
            due(0, x, "free", 2, 1);
        });
        says("How long the WAY is, up to a load", () -> {
            due(2, rich(), "free", 0, 0);
            due(2, rich(), "free", 2, 0);
            due(0, rich(), "free", 2, 1);
        });
        says("NUMBER: lane isn't 0 .. 19", () -> {
            for (int i : NO_LANES) refuses(NUMBER, RICH, "free", i, 0);
        });
        says("NUMBER: lane isn't 0 .. 19, the last one is", () -> {
            FerryDeck x = new FerryDeck();
            x.lane(19, 7, 50, 0, 2);
            due(7, x, "free", 19, 1);
        });
        says("NUMBER: end not 0, 1", () -> {
            for (int end : new int[] {-1, LOWEST, 2, 3, HIGHEST}) refuses(NUMBER, RICH, "free", 2, end);
        });
        says("NUMBER: end comes ahead of MISSING", () -> refuses(NUMBER, RICH, "free", 3, 2));
        says("MISSING", () -> {
            refuses(MISSING, RICH, "free", 3, 0);
            refuses(MISSING, RICH, "free", 3, 1);
        });
        says("END: not OPEN", () -> {
            refuses(END, RICH, "free", 0, 1);
            refuses(END, RICH, "free", 1, 0);
        });
        says("at SEA it is told too", () -> due(2, atSea(), "free", 0, 0));
    }

    public static void main(String[] args) {
        begin(args);
        newObject();
        lane();
        miss();
        told();
        chock();
        lift();
        at();
        kindAt();
        copy();
        sheet();
        free();
        end();
    }
}
