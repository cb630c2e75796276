/** Each promise of the document by hand: ordinary inputs, the edges that are named, wrong inputs. */
public final class PromisesTest {
    private static final int CAR = 1, VAN = 2, COACH = 3, CART = 4, ANIMAL = 5;
    private static final int NUMBER = -1, STATE = -2, MISSING = -3, TAKEN = -4, END = -5, HIGH = -6, ROOM = -7,
            BEHIND = -8, NEXT = -9, FULL = -10, LEAN = -11, PORTS = -12, STUCK = -13, LARGE = -14, NEVER = -15,
            DRAWS = -16, FOUND = -17;

    private static int promise;
    private static int wrong = 0;
    private static int checks = 0;

    private static void due(String call, long got, long want) {
        checks++;
        if (got != want) {
            wrong++;
            System.out.println("promise " + promise + ": " + call + " answered " + got + ", due is " + want);
        }
    }

    private static void due(String call, boolean got, boolean want) {
        due(call, got ? 1 : 0, want ? 1 : 0);
    }

    /** Lane 0 with end 0, lane 1 with end 1, lane 2 with both; 5 places each, HEIGHT 50, OFFSETS -1, 1, 0; 3 ports. */
    private static FerryDeck threeLanes() {
        FerryDeck x = new FerryDeck();
        x.lane(0, 5, 50, -1, 1);
        x.lane(1, 5, 50, 1, 2);
        x.lane(2, 5, 50, 0, 3);
        x.day(3, 1000);
        return x;
    }

    private static int car(FerryDeck x, int port) {
        return x.load(CAR, 10, 8, port, 0);
    }

    private static FerryDeck atSea() {
        FerryDeck x = threeLanes();
        x.sail();
        return x;
    }

    private static void promise1() {
        FerryDeck x = new FerryDeck();
        int[] ship = {0, -1, 1, 0, 0, 0, 0, 0, 0};
        for (int i = 0; i < ship.length; i++) due("ship(" + i + ")", x.ship(i), ship[i]);
        for (int i = 0; i <= 6; i++) due("found(" + i + ")", x.found(i), 0);
        for (int i = 0; i < 20; i++) due("free(" + i + ", 0)", x.free(i, 0), MISSING);
        due("loads()", x.loads(), 0);
        due("back(0)", x.back(0), false);
        due("back(1)", x.back(1), false);
        due("undo()", x.undo(), NUMBER);
        due("planned(0, 0)", x.planned(0, 0), -1);
        due("check()", x.check(), 0);
        due("moved(0)", x.moved(0), -1);
        due("left(0)", x.left(0), -1);
        x.lane(0, 5, 50, 1, 1);
        x.load(CAR, 1, 8008, 0, 0);
        x.drive(0, 0, 0);
        due("sail() beyond the LIMIT of 1000", x.sail(), LEAN);
        due("why(2)", x.why(2), 1);
        x.undo();
        x.load(CAR, 1, 8000, 0, 0);
        x.drive(1, 0, 0);
        due("sail() at the LIMIT of 1000", x.sail(), 1);
        due("arrive()", x.arrive(), 0);
        due("ship(0) behind the only port", x.ship(0), 0);
    }

    private static void promise2() {
        FerryDeck x = new FerryDeck();
        due("lane(0, 1, 1, -1000, 1)", x.lane(0, 1, 1, -1000, 1), 1);
        due("lane(19, 40, 1000, 1000, 3)", x.lane(19, 40, 1000, 1000, 3), 1);
        due("lane(-1, ..)", x.lane(-1, -1, 1, 0, 1), NUMBER);
        due("lane(20, ..)", x.lane(20, 5, 1, 0, 1), NUMBER);
        due("found(3)", x.found(3), 0);
        due("length -1", x.lane(1, -1, 0, 0, 0), FOUND);
        due("length least", x.lane(1, Integer.MIN_VALUE, 1, 0, 1), FOUND);
        due("found(3)", x.found(3), 2);
        due("length 0", x.lane(1, 0, 1, 0, 1), NUMBER);
        due("length 41", x.lane(1, 41, 1, 0, 1), NUMBER);
        due("height 0", x.lane(1, 5, 0, 0, 1), NUMBER);
        due("height 1001", x.lane(1, 5, 1001, 0, 1), NUMBER);
        due("offset -1001", x.lane(1, 5, 1, -1001, 1), NUMBER);
        due("offset 1001", x.lane(1, 5, 1, 1001, 1), NUMBER);
        due("ends 0", x.lane(1, 5, 1, 0, 0), NUMBER);
        due("ends 4", x.lane(1, 5, 1, 0, 4), NUMBER);
        due("ship(8)", x.ship(8), 2);
        x = threeLanes();
        car(x, 0);
        x.drive(0, 0, 0);
        x.chock(1, 2);
        due("a load is in it", x.lane(0, 3, 3, 3, 3), TAKEN);
        due("a chock is in it", x.lane(1, 3, 3, 3, 3), TAKEN);
        due("ship(6)", x.ship(6), 2);
        due("anew", x.lane(2, 3, 4, 5, 1), 1);
        due("told(2, 0)", x.told(2, 0), 3);
        due("ship(6)", x.ship(6), 0);
        due("undo()", x.undo(), NUMBER);
        x = atSea();
        due("at sea", x.lane(5, 5, 5, 5, 1), STATE);
        due("at sea, SIZE ahead", x.lane(5, -5, 5, 5, 1), FOUND);
        due("at sea, NUMBER ahead", x.lane(5, 5, 5, 5, 9), NUMBER);
    }

    private static void promise3() {
        FerryDeck x = threeLanes();
        due("miss(-1)", x.miss(-1), NUMBER);
        due("miss(20)", x.miss(20), NUMBER);
        due("miss(3)", x.miss(3), MISSING);
        car(x, 0);
        x.drive(0, 0, 0);
        x.chock(1, 0);
        due("miss(0)", x.miss(0), TAKEN);
        due("miss(1)", x.miss(1), TAKEN);
        due("ship(6)", x.ship(6), 2);
        due("miss(2)", x.miss(2), 1);
        due("ship(6)", x.ship(6), 0);
        due("ship(8)", x.ship(8), 2);
        due("miss(2) again", x.miss(2), MISSING);
        due("miss(2) at sea", atSea().miss(2), STATE);
        due("miss(9) at sea", atSea().miss(9), STATE);
    }

    private static void promise4() {
        FerryDeck x = new FerryDeck();
        x.lane(4, 7, 30, -6, 2);
        int[] want = {7, 30, -6, 2, 0};
        for (int i = 0; i < want.length; i++) due("told(4, " + i + ")", x.told(4, i), want[i]);
        x.load(COACH, 5, 5, 0, 0);
        car(x, 0);
        x.chock(4, 0);
        x.drive(0, 4, 1);
        x.drive(1, 4, 1);
        due("told(4, 4)", x.told(4, 4), 2);
        due("told(20, 5)", x.told(20, 5), NUMBER);
        due("told(4, -1)", x.told(4, -1), NUMBER);
        due("found(0)", x.found(0), 0);
        due("told(20, 0)", x.told(20, 0), FOUND);
        due("found(0)", x.found(0), 2);
        due("told(-1, 0)", x.told(-1, 0), FOUND);
        due("found(2)", x.found(2), 2);
        due("told(3, 4)", x.told(3, 4), FOUND);
        due("found(0)", x.found(0), 1);
    }

    private static void promise5() {
        FerryDeck x = threeLanes();
        due("chock(-1, 0)", x.chock(-1, 0), NUMBER);
        due("chock(20, 0)", x.chock(20, 0), NUMBER);
        due("chock(3, 99)", x.chock(3, 99), MISSING);
        due("chock(0, -1)", x.chock(0, -1), NUMBER);
        due("chock(0, 5)", x.chock(0, 5), NUMBER);
        due("chock(0, 4)", x.chock(0, 4), 1);
        due("at(0, 4)", x.at(0, 4), -2);
        due("chock(0, 4)", x.chock(0, 4), TAKEN);
        car(x, 0);
        x.drive(0, 0, 0);
        due("chock on a load", x.chock(0, 3), TAKEN);
        due("chock(0, 0) at sea", atSea().chock(0, 0), STATE);
        due("chock(9, 0) at sea", atSea().chock(9, 0), STATE);
        due("chock(20, 0) at sea", atSea().chock(20, 0), NUMBER);
    }

    private static void promise6() {
        FerryDeck x = threeLanes();
        due("lift(-1, 0)", x.lift(-1, 0), NUMBER);
        due("lift(20, 0)", x.lift(20, 0), NUMBER);
        due("lift(3, 99)", x.lift(3, 99), MISSING);
        due("lift(0, -1)", x.lift(0, -1), NUMBER);
        due("lift(0, 5)", x.lift(0, 5), NUMBER);
        due("lift where nothing is", x.lift(0, 0), TAKEN);
        car(x, 0);
        x.drive(0, 0, 0);
        due("lift a load", x.lift(0, 4), TAKEN);
        x.chock(0, 1);
        due("lift(0, 1)", x.lift(0, 1), 1);
        due("at(0, 1)", x.at(0, 1), -1);
        x = threeLanes();
        x.chock(0, 0);
        x.sail();
        due("lift(0, 0) at sea", x.lift(0, 0), STATE);
        due("lift(20, 0) at sea", x.lift(20, 0), NUMBER);
    }

    private static void promise7() {
        FerryDeck x = threeLanes();
        x.load(COACH, 5, 5, 0, 0);
        x.drive(0, 2, 1);
        x.chock(2, 4);
        int[] want = {0, 0, 0, -1, -2};
        for (int i = 0; i < 5; i++) due("at(2, " + i + ")", x.at(2, i), want[i]);
        due("at(-1, 0)", x.at(-1, 0), FOUND);
        due("at(20, 0)", x.at(20, 0), FOUND);
        due("found(2)", x.found(2), 2);
        due("at(5, -1)", x.at(5, -1), FOUND);
        due("found(1)", x.found(1), 1);
        due("at(2, 5)", x.at(2, 5), FOUND);
        due("at(2, -1)", x.at(2, -1), FOUND);
        due("found(2)", x.found(2), 4);
        due("found(0)", x.found(0), 2);
    }

    private static void promise8() {
        FerryDeck x = threeLanes();
        x.load(COACH, 5, 5, 0, 0);
        x.load(VAN, 5, 5, 0, 0);
        x.drive(0, 2, 1);
        x.drive(1, 2, 1);
        x.chock(2, 4);
        due("kindAt(2, 1)", x.kindAt(2, 1), COACH);
        due("kindAt(2, 3)", x.kindAt(2, 3), VAN);
        due("kindAt(2, 4)", x.kindAt(2, 4), FOUND);
        due("kindAt(1, 4)", x.kindAt(1, 4), FOUND);
        due("found(4)", x.found(4), 2);
        due("kindAt(20, 0)", x.kindAt(20, 0), FOUND);
        due("kindAt(2, 5)", x.kindAt(2, 5), FOUND);
        due("kindAt(3, 0)", x.kindAt(3, 0), FOUND);
        due("found(0)", x.found(0), 1);
        due("found(2)", x.found(2), 2);
        due("found(4)", x.found(4), 2);
    }

    private static void promise9() {
        FerryDeck x = threeLanes();
        car(x, 0);
        x.drive(0, 0, 0);
        x.chock(0, 2);
        due("copy(0, 2, 3)", x.copy(0, 2, 3), 3);
        int[] want = {-2, -1, 0, 0};
        for (int i = 0; i < 4; i++) due("sheet(" + i + ")", x.sheet(i), want[i]);
        due("copy(1, 4, 1)", x.copy(1, 4, 1), 1);
        due("sheet(0)", x.sheet(0), -1);
        due("what else is on the sheet stays", x.sheet(1), -1);
        due("copy(1, 5, 0)", x.copy(1, 5, 0), 0);
        due("copy(1, 6, 0)", x.copy(1, 6, 0), FOUND);
        due("copy(1, 1, 5)", x.copy(1, 1, 5), FOUND);
        due("copy(1, -1, 2)", x.copy(1, -1, 2), FOUND);
        due("copy(1, 2, -1)", x.copy(1, 2, -1), FOUND);
        due("copy by whole numbers without end", x.copy(1, Integer.MAX_VALUE, Integer.MAX_VALUE), FOUND);
        due("found(5)", x.found(5), 5);
        due("copy(-1, 0, -1)", x.copy(-1, 0, -1), FOUND);
        due("copy(20, 0, 1)", x.copy(20, 0, 1), FOUND);
        due("found(2)", x.found(2), 2);
        due("copy(9, -1, 0)", x.copy(9, -1, 0), FOUND);
        due("found(1)", x.found(1), 1);
        x.lane(3, 40, 5, 5, 1);
        due("copy(3, 0, 40)", x.copy(3, 0, 40), 40);
        due("sheet(39)", x.sheet(39), -1);
    }

    private static void promise10() {
        FerryDeck x = new FerryDeck();
        for (int i = 0; i < 40; i++) due("sheet(" + i + ")", x.sheet(i), 0);
        due("sheet(-1)", x.sheet(-1), FOUND);
        due("sheet(40)", x.sheet(40), FOUND);
        due("found(2)", x.found(2), 2);
    }

    private static void promise11() {
        FerryDeck x = threeLanes();
        due("free(0, 0)", x.free(0, 0), 5);
        due("free(0, 1)", x.free(0, 1), END);
        due("free(1, 0)", x.free(1, 0), END);
        due("free(1, 1)", x.free(1, 1), 5);
        x.chock(2, 1);
        due("free(2, 0)", x.free(2, 0), 1);
        due("free(2, 1)", x.free(2, 1), 3);
        x.chock(2, 4);
        due("free(2, 1)", x.free(2, 1), 0);
        due("free(-1, 0)", x.free(-1, 0), NUMBER);
        due("free(20, 0)", x.free(20, 0), NUMBER);
        due("free(3, 2)", x.free(3, 2), NUMBER);
        due("free(3, -1)", x.free(3, -1), NUMBER);
        due("free(3, 1)", x.free(3, 1), MISSING);
        due("free(2, 0) at sea", atSea().free(2, 0), 5);
    }

    private static void promise12() {
        FerryDeck x = new FerryDeck();
        due("load kind 0", x.load(0, 1, 0, 0, 0), NUMBER);
        due("load kind 6", x.load(6, 1, 0, 0, 0), NUMBER);
        due("load height 0", x.load(CAR, 0, 0, 0, 0), NUMBER);
        due("load height 1001", x.load(CAR, 1001, 0, 0, 0), NUMBER);
        due("load weight -1", x.load(CAR, 1, -1, 0, 0), NUMBER);
        due("load weight 8000001", x.load(CAR, 1, 8_000_001, 0, 0), NUMBER);
        for (int kind = CAR; kind <= COACH; kind++) {
            due("load port -1", x.load(kind, 1, 0, -1, 0), NUMBER);
            due("load port 12", x.load(kind, 1, 0, 12, 0), NUMBER);
        }
        due("cart without a drawer", x.load(CART, 1, 0, 0, 0), NUMBER);
        due("car", x.load(CAR, 1000, 8_000_000, 11, -99), 0);
        due("animal", x.load(ANIMAL, 1, 0, 99, 0), 1);
        due("drawer -1", x.load(CART, 1, 0, 0, -1), NUMBER);
        due("drawer 2", x.load(CART, 1, 0, 0, 2), NUMBER);
        due("drawer is an animal", x.load(CART, 1, 0, 0, 1), DRAWS);
        due("drawer draws", x.load(CART, 1, 0, 0, 0), DRAWS);
        due("coach", x.load(COACH, 1, 0, 0, 0), 2);
        due("cart behind a coach", x.load(CART, 1, 0, 0, 2), 3);
        due("cart behind a cart", x.load(CART, 1, 0, 0, 3), 4);
        x = threeLanes();
        car(x, 0);
        x.drive(0, 0, 0);
        x.sail();
        due("told at sea", car(x, 0), 1);
        x.arrive();
        due("drawer is GONE", x.load(CART, 1, 0, 0, 0), TAKEN);
        x = new FerryDeck();
        for (int i = 0; i < 400; i++) due("load", car(x, 0), i);
        due("the 401st", car(x, 0), FULL);
        due("NUMBER ahead of FULL", car(x, 12), NUMBER);
        due("loads()", x.loads(), 400);
    }

    private static void promise13() {
        FerryDeck x = threeLanes();
        x.load(VAN, 12, 15, 2, 0);
        x.load(COACH, 12, 31, 1, 0);
        x.load(ANIMAL, 12, 16, 0, 0);
        x.drive(1, 1, 1);
        int[][] want = {{VAN, 1, 22, 1, 2, 0, -1, -1, 2}, {COACH, 3, 32, 6, 1, 1, 1, 0, -1},
            {ANIMAL, 1, 12, 3, 2, 0, -1, -1, -1}};
        for (int i = 0; i < 3; i++)
            for (int w = 0; w < 9; w++) due("of(" + i + ", " + w + ")", x.of(i, w), want[i][w]);
        due("of(3, 9)", x.of(3, 9), NUMBER);
        due("of(0, -1)", x.of(0, -1), NUMBER);
        due("found(0)", x.found(0), 0);
        due("of(3, 0)", x.of(3, 0), FOUND);
        due("of(-1, 0)", x.of(-1, 0), FOUND);
        due("found(2)", x.found(2), 2);
        x.sail();
        x.arrive();
        x.arrive();
        due("of(1, 5)", x.of(1, 5), 2);
        due("of(1, 6)", x.of(1, 6), -1);
        due("of(1, 7)", x.of(1, 7), -1);
        x.load(CAR, 3, 7, 0, 0);
        x.load(CART, 3, 8, 0, 3);
        due("units of 7 eighths", x.of(3, 3), 0);
        due("units of 8 eighths", x.of(4, 3), 1);
        due("tall of a cart", x.of(4, 2), 3);
        due("port of a cart", x.of(4, 4), 0);
        due("kind of a cart", x.of(4, 0), CART);
        due("span of a cart", x.of(4, 1), 1);
    }

    private static void promise14() {
        FerryDeck x = new FerryDeck();
        x.load(CAR, 1, 0, 0, 0);
        x.load(VAN, 1, 0, 0, 0);
        x.load(COACH, 1, 0, 0, 0);
        x.load(CART, 1, 0, 0, 0);
        x.load(ANIMAL, 1, 0, 0, 1);
        due("more(1)", x.more(1), 10);
        due("more(2)", x.more(2), 20);
        due("more(0)", x.more(0), FOUND);
        due("more(3)", x.more(3), FOUND);
        due("more(4)", x.more(4), FOUND);
        due("found(4)", x.found(4), 3);
        due("more(5)", x.more(5), FOUND);
        due("more(-1)", x.more(-1), FOUND);
        due("found(2)", x.found(2), 2);
    }

    private static void promise15() {
        FerryDeck x = new FerryDeck();
        x.load(CAR, 1, 0, 0, 0);
        x.load(VAN, 1, 0, 0, 0);
        x.load(COACH, 1, 0, 0, 0);
        x.load(CART, 1, 0, 0, 2);
        x.load(ANIMAL, 1, 0, 0, 1);
        due("drawer(3)", x.drawer(3), 2);
        due("drawer(4)", x.drawer(4), 1);
        for (int i = 0; i < 3; i++) due("drawer(" + i + ")", x.drawer(i), FOUND);
        due("found(4)", x.found(4), 3);
        due("drawer(5)", x.drawer(5), FOUND);
        due("drawer(-1)", x.drawer(-1), FOUND);
        due("found(2)", x.found(2), 2);
    }

    private static void promise16() {
        FerryDeck x = new FerryDeck();
        due("loads()", x.loads(), 0);
        car(x, 0);
        car(x, 99);
        car(x, 1);
        due("loads()", x.loads(), 2);
    }

    private static void promise17() {
        FerryDeck x = threeLanes();
        x.load(COACH, 5, 0, 2, 0);
        for (int i = 0; i < 5; i++) car(x, 2);
        x.drive(0, 0, 0);
        due("one is at the quay", x.near(0, 1), false);
        x.drive(1, 0, 0);
        x.drive(2, 0, 0);
        x.drive(3, 1, 1);
        x.drive(4, 1, 1);
        x.drive(5, 1, 1);
        due("near(0, 1)", x.near(0, 1), true);
        due("near(1, 0)", x.near(1, 0), true);
        due("near(0, 2)", x.near(0, 2), false);
        due("one place in the next lane", x.near(0, 5), true);
        due("near(5, 0)", x.near(5, 0), true);
        due("near(0, 4), askew", x.near(0, 4), false);
        due("near(2, 3)", x.near(2, 3), true);
        due("near(4, 0), askew", x.near(4, 0), false);
        due("near(1, 3), askew", x.near(1, 3), false);
        due("near(0, 0)", x.near(0, 0), false);
        due("near(0, 6)", x.near(0, 6), false);
        due("near(-1, 0)", x.near(-1, 0), false);
        due("near(0, -1)", x.near(0, -1), false);
        x = threeLanes();
        car(x, 0);
        car(x, 0);
        x.drive(0, 0, 0);
        x.drive(1, 2, 0);
        due("two lanes apart", x.near(0, 1), false);
        x.sail();
        x.arrive();
        due("both are GONE", x.near(0, 1), false);
    }

    private static void promise18() {
        FerryDeck x = threeLanes();
        x.load(CAR, 51, 0, 0, 0);
        x.load(COACH, 30, 0, 0, 0);
        x.load(CAR, 50, 0, 0, 0);
        x.load(CART, 10, 0, 0, 2);
        x.load(COACH, 31, 0, 0, 0);
        due("no such load", x.drive(5, 0, 0), NUMBER);
        due("no such load", x.drive(-1, 0, 0), NUMBER);
        due("no lane", x.drive(0, 20, 0), NUMBER);
        due("no lane", x.drive(0, -1, 0), NUMBER);
        due("no end", x.drive(0, 0, 2), NUMBER);
        due("no end", x.drive(0, 0, -1), NUMBER);
        due("MISSING", x.drive(0, 3, 0), MISSING);
        due("END ahead of HIGH", x.drive(0, 0, 1), END);
        due("END", x.drive(0, 1, 0), END);
        due("HIGH", x.drive(0, 0, 0), HIGH);
        due("HIGH by its roof", x.drive(4, 0, 0), HIGH);
        due("BEHIND, an empty lane", x.drive(3, 0, 0), BEHIND);
        due("a coach by end 0", x.drive(1, 2, 0), 2);
        due("TAKEN ahead of MISSING", x.drive(1, 3, 0), TAKEN);
        due("ROOM, an END that is taken", x.drive(2, 2, 1), ROOM);
        due("BEHIND, another load", x.drive(3, 2, 0), BEHIND);
        due("its drawer by end 0", x.drive(2, 2, 0), 1);
        due("behind its drawer", x.drive(3, 2, 0), 0);
        due("at(2, 0)", x.at(2, 0), 3);
        due("of(3, 5)", x.of(3, 5), 1);
        x.sail();
        due("STATE", x.drive(0, 0, 0), STATE);
        due("NUMBER ahead of STATE", x.drive(9, 0, 0), NUMBER);
        drivesByEndOne();
        animalsAndCoaches();
    }

    private static void drivesByEndOne() {
        FerryDeck x = threeLanes();
        x.load(COACH, 5, 0, 0, 0);
        x.load(CART, 5, 0, 0, 0);
        x.load(COACH, 5, 0, 0, 0);
        due("a coach by end 1", x.drive(0, 1, 1), 0);
        due("its cart", x.drive(1, 1, 1), 3);
        due("one place is too few for a coach", x.drive(2, 1, 1), ROOM);
        x.chock(2, 1);
        due("three places behind a chock", x.drive(2, 2, 1), 2);
        FerryDeck y = threeLanes();
        y.load(CAR, 5, 0, 0, 0);
        y.load(CART, 5, 0, 0, 0);
        y.drive(0, 2, 0);
        y.chock(2, 3);
        due("a chock is no drawer", y.drive(1, 2, 0), BEHIND);
    }

    private static void animalsAndCoaches() {
        FerryDeck x = new FerryDeck();
        for (int i = 0; i < 4; i++) x.lane(i, 5, 50, 0, 3);
        x.load(CAR, 5, 0, 0, 0);
        x.load(ANIMAL, 5, 0, 0, 0);
        x.load(COACH, 5, 0, 0, 0);
        x.drive(0, 1, 0);
        x.drive(1, 1, 0);
        due("animal at", x.at(1, 3), 1);
        due("coach next in the lane", x.drive(2, 1, 0), NEXT);
        due("coach beside, lane 0", x.drive(2, 0, 0), NEXT);
        due("coach beside, lane 2", x.drive(2, 2, 0), NEXT);
        due("coach out of reach, lane 2", x.drive(2, 2, 1), 0);
        x.undo();
        due("coach two lanes apart", x.drive(2, 3, 0), 2);
        x = new FerryDeck();
        for (int i = 0; i < 4; i += 2) x.lane(i, 5, 50, 0, 1);
        x.load(COACH, 5, 0, 0, 0);
        x.load(ANIMAL, 5, 0, 0, 0);
        x.load(CAR, 5, 0, 0, 0);
        x.load(ANIMAL, 5, 0, 0, 2);
        x.drive(0, 0, 0);
        due("animal behind a coach", x.drive(1, 0, 0), NEXT);
        x.drive(2, 2, 0);
        due("a missing lane between", x.drive(3, 2, 0), 3);
        due("again()", x.again(), NEXT);
        x.undo();
        x.undo();
        x.lane(1, 5, 50, 0, 1);
        x.drive(2, 1, 0);
        due("animal beside a coach", x.drive(3, 1, 0), NEXT);
        x = new FerryDeck();
        x.lane(0, 5, 50, 0, 1);
        x.lane(1, 9, 50, 0, 2);
        x.load(COACH, 5, 0, 0, 0);
        x.load(CAR, 5, 0, 0, 0);
        x.load(ANIMAL, 5, 0, 0, 1);
        x.drive(0, 0, 0);
        x.drive(1, 1, 1);
        due("animal beside the coach's free end", x.drive(2, 1, 1), 1);
    }

    private static void promise19() {
        FerryDeck x = threeLanes();
        for (int i = 0; i < 3; i++) car(x, 0);
        x.load(CART, 1, 0, 0, 2);
        for (int i = 0; i < 4; i++) x.drive(i, 2, 0);
        due("out(4, 0)", x.out(4, 0), NUMBER);
        due("out(-1, 0)", x.out(-1, 0), NUMBER);
        due("out(0, 2)", x.out(0, 2), NUMBER);
        due("out(0, -1)", x.out(0, -1), NUMBER);
        due("ROOM", x.out(0, 0), ROOM);
        due("ROOM ahead of DRAWS", x.out(2, 0), ROOM);
        due("by the other end", x.out(0, 1), 1);
        due("of(0, 5)", x.of(0, 5), 0);
        due("at(2, 4)", x.at(2, 4), -1);
        due("TAKEN", x.out(0, 1), TAKEN);
        due("next", x.out(1, 1), 1);
        due("DRAWS", x.out(2, 1), DRAWS);
        x.chock(2, 0);
        due("a chock is in the way", x.out(3, 0), ROOM);
        x.lift(2, 0);
        due("the cart", x.out(3, 0), 1);
        due("the drawer behind it", x.out(2, 0), 1);
        x.drive(0, 0, 0);
        x.drive(1, 1, 1);
        due("END", x.out(0, 1), END);
        due("END", x.out(1, 0), END);
        x.sail();
        due("STATE", x.out(0, 0), STATE);
        due("NUMBER ahead of STATE", x.out(0, 3), NUMBER);
        FerryDeck y = threeLanes();
        y.load(COACH, 5, 0, 0, 0);
        y.drive(0, 2, 0);
        due("a coach by end 1", y.out(0, 1), 1);
        for (int i = 0; i < 5; i++) due("at(2, " + i + ")", y.at(2, i), -1);
    }

    private static void promise20() {
        FerryDeck x = threeLanes();
        x.load(COACH, 5, 0, 0, 0);
        due("none", x.undo(), NUMBER);
        x.drive(0, 2, 0);
        x.out(0, 0);
        x.chock(2, 1);
        x.lift(2, 1);
        x.lift(2, 1);
        due("ship(6)", x.ship(6), 4);
        due("undo lift", x.undo(), 1);
        due("at(2, 1)", x.at(2, 1), -2);
        due("undo chock", x.undo(), 1);
        due("at(2, 1)", x.at(2, 1), -1);
        due("undo out", x.undo(), 1);
        due("at(2, 2)", x.at(2, 2), 0);
        due("at(2, 4)", x.at(2, 4), 0);
        due("of(0, 5)", x.of(0, 5), 1);
        due("told(2, 4)", x.told(2, 4), 1);
        due("undo drive", x.undo(), 1);
        due("at(2, 2)", x.at(2, 2), -1);
        due("of(0, 5)", x.of(0, 5), 0);
        due("told(2, 4)", x.told(2, 4), 0);
        due("none", x.undo(), NUMBER);
        x.chock(0, 0);
        x.sail();
        due("STATE", x.undo(), STATE);
        due("ship(6)", x.ship(6), 0);
        for (int i = 0; i < 3; i++) x.arrive();
        due("forgotten by sail()", x.undo(), NUMBER);
        for (int i = 0; i < 4; i++) {
            x.chock(1, 3);
            due("ship(6)", x.ship(6), 1);
            if (i == 0) x.day(3, 5);
            if (i == 1) x.lane(5, 5, 5, 5, 1);
            if (i == 2) x.miss(5);
            if (i < 3) due("forgotten", x.undo(), NUMBER);
            if (i < 3) {
                x.lift(1, 3);
                x.miss(2);
                x.lane(2, 5, 50, 0, 3);
            }
        }
        latestHundred();
    }

    private static void latestHundred() {
        FerryDeck x = threeLanes();
        for (int i = 0; i < 51; i++) {
            x.chock(0, 0);
            due("ship(6)", x.ship(6), Math.min(100, 2 * i + 1));
            x.lift(0, 0);
        }
        x.chock(1, 1);
        due("ship(6)", x.ship(6), 100);
        for (int i = 0; i < 100; i++) due("undo()", x.undo(), 1);
        due("the 101st", x.undo(), NUMBER);
        due("at(0, 0) is as behind the third act", x.at(0, 0), -2);
        due("at(1, 1)", x.at(1, 1), -1);
    }

    private static void promise21() {
        FerryDeck x = threeLanes();
        due("none yet", x.again(), FOUND);
        due("found(6)", x.found(6), 1);
        due("found(0)", x.found(0), 6);
        car(x, 0);
        x.drive(0, 9, 0);
        due("again()", x.again(), MISSING);
        x.drive(0, 0, 0);
        due("a drive that isn't refused counts nothing", x.again(), MISSING);
        x.undo();
        x.lane(4, 1, 50, 0, 1);
        due("place 0", x.drive(0, 4, 0), 0);
        due("nor one that answers 0", x.again(), MISSING);
        x.out(0, 0);
        x.drive(0, 0, 0);
        x.out(0, 1);
        due("an out counts nothing", x.again(), MISSING);
        x.drive(0, 0, 0);
        due("again()", x.again(), TAKEN);
        x.drive(7, 0, 0);
        due("again()", x.again(), NUMBER);
        due("found(6)", x.found(6), 1);
    }

    private static void promise22() {
        FerryDeck x = threeLanes();
        due("ports 0", x.day(0, 5), NUMBER);
        due("ports 13", x.day(13, 5), NUMBER);
        due("limit -1", x.day(3, -1), NUMBER);
        due("limit 10^12 + 1", x.day(3, 1_000_000_000_001L), NUMBER);
        due("day(12, 10^12)", x.day(12, 1_000_000_000_000L), 1);
        due("ship(2)", x.ship(2), 12);
        x.chock(0, 0);
        due("a chock hinders nothing", x.day(1, 0), 1);
        due("UNDO is forgotten", x.ship(6), 0);
        due("ship(2)", x.ship(2), 1);
        x.load(CAR, 1, 8, 0, 0);
        x.drive(0, 1, 1);
        due("TAKEN", x.day(3, 5), TAKEN);
        due("UNDO is not forgotten", x.ship(6), 1);
        due("LIMIT 0", x.sail(), LEAN);
        due("STATE", atSea().day(3, 5), STATE);
        due("NUMBER ahead of STATE", atSea().day(0, 5), NUMBER);
    }

    private static void promise23() {
        FerryDeck x = new FerryDeck();
        x.lane(0, 10, 50, -1000, 1);
        x.lane(5, 10, 50, 7, 1);
        x.day(3, 1_000_000_000_000L);
        for (int i = 0; i < 3; i++) x.load(COACH, 5, 8_000_000, i, 0);
        x.load(CAR, 5, 80, 1, 0);
        x.load(CAR, 5, 80, 11, 0);
        x.drive(2, 0, 0);
        x.drive(1, 0, 0);
        x.drive(0, 0, 0);
        x.drive(3, 5, 0);
        due("lean(0)", x.lean(0), -5_999_999_930L);
        due("lean(1)", x.lean(1), -3_999_999_930L);
        due("lean(2)", x.lean(2), -2_000_000_000L);
        due("lean(3)", x.lean(3), 0);
        due("lean(-1)", x.lean(-1), 0);
        x.drive(4, 5, 0);
        due("a port beyond the day counts", x.lean(2), -1_999_999_930L);
        due("but there is no leg to it", x.lean(3), 0);
        due("lean(11)", x.lean(11), 0);
        x.undo();
        x.sail();
        due("lean(0)", x.lean(0), -5_999_999_930L);
        x.arrive();
        due("ended", x.lean(0), 0);
        due("lean(1)", x.lean(1), -3_999_999_930L);
        x.arrive();
        due("ended", x.lean(1), 0);
        due("lean(2)", x.lean(2), -2_000_000_000L);
        x.arrive();
        due("lean(2) at the quay", x.lean(2), 0);
    }

    private static void promise24() {
        FerryDeck x = threeLanes();
        due("an empty ship sails", x.sail(), 1);
        due("ship(0)", x.ship(0), 1);
        due("ship(1)", x.ship(1), 0);
        due("STATE", x.sail(), STATE);
        x = threeLanes();
        x.day(2, 4);
        x.load(CAR, 5, 40, 1, 0);
        x.load(CAR, 5, 8, 2, 0);
        x.drive(0, 0, 0);
        x.drive(1, 1, 1);
        x.chock(0, 0);
        due("PORTS ahead of LEAN", x.sail(), PORTS);
        x.undo();
        x.undo();
        x.chock(0, 0);
        due("LEAN ahead of STUCK", x.sail(), LEAN);
        due("UNDO is not forgotten", x.ship(6), 2);
        x.undo();
        x.undo();
        x.load(CAR, 5, 32, 1, 0);
        x.drive(2, 0, 0);
        x.chock(0, 0);
        due("STUCK", x.sail(), STUCK);
        due("ship(0)", x.ship(0), 0);
        x.lift(0, 0);
        due("at the LIMIT", x.sail(), 1);
        due("UNDO is forgotten", x.ship(6), 0);
        chocksAndEnds();
    }

    private static void chocksAndEnds() {
        FerryDeck x = threeLanes();
        car(x, 2);
        car(x, 1);
        x.drive(0, 2, 0);
        x.chock(2, 2);
        x.drive(1, 2, 0);
        due("each leaves by its own end", x.sail(), 1);
        x = threeLanes();
        car(x, 1);
        car(x, 1);
        x.drive(0, 2, 0);
        x.chock(2, 2);
        x.drive(1, 2, 0);
        due("a chock between two that leave", x.sail(), STUCK);
        due("bound()", x.bound(), STUCK);
        x = threeLanes();
        car(x, 1);
        x.chock(0, 4);
        x.drive(0, 0, 0);
        due("a chock behind", x.sail(), 1);
    }

    private static void promise25() {
        FerryDeck x = threeLanes();
        why(x, "no sail yet", 0, 0, 0, -1);
        x.day(3, 2);
        x.load(CAR, 5, 8, 3, 0);
        x.load(CAR, 5, 8, 4, 0);
        x.drive(1, 0, 0);
        x.drive(0, 0, 0);
        x.sail();
        why(x, "PORTS", 0, 0, 0, -1);
        x.undo();
        x.sail();
        why(x, "PORTS, the other load", 1, 0, 0, -1);
        x.undo();
        x.sail();
        why(x, "sailed", 0, 0, 0, -1);
        x = threeLanes();
        x.day(3, 2);
        x.load(CAR, 5, 48, 2, 0);
        x.load(CAR, 5, 48, 0, 0);
        x.drive(0, 0, 0);
        x.drive(1, 1, 1);
        x.sail();
        why(x, "LEAN below, the first leg by which", 1, -1, 4, -1);
        due("why(4)", x.why(4), -1);
        due("why(-1)", x.why(-1), -1);
        x.undo();
        x.undo();
        x.drive(0, 1, 1);
        x.sail();
        why(x, "LEAN above", 0, 1, 4, -1);
        x.keep(0);
        x.undo();
        x.sail();
        x.back(0);
        why(x, "not kept", 0, 0, 0, -1);
        x = threeLanes();
        for (int i = 0; i < 3; i++) car(x, i == 0 ? 2 : 1);
        x.drive(0, 0, 0);
        x.drive(1, 1, 1);
        x.drive(2, 2, 0);
        for (int i = 0; i < 2; i++) x.chock(i, i == 0 ? 0 : 4);
        x.chock(2, 0);
        x.sail();
        why(x, "STUCK", 1, 0, 0, 1);
        x.lift(1, 4);
        x.sail();
        why(x, "STUCK later", 2, 0, 0, 0);
        x.lift(0, 0);
        due("sail()", x.sail(), 1);
        why(x, "sailed", 0, 0, 0, -1);
        x = threeLanes();
        car(x, 5);
        car(x, 5);
        x.drive(1, 0, 0);
        x.sail();
        why(x, "PORTS", 1, 0, 0, -1);
        x.keep(1);
        x.undo();
        x.sail();
        x.back(1);
        x.sail();
        why(x, "PORTS", 1, 0, 0, -1);
        x.undo();
        x.sail();
        x.keep(0);
        x.back(1);
        x.sail();
        x.back(0);
        due("STATE", x.sail(), STATE);
        why(x, "refused by STATE", 0, 0, 0, -1);
    }

    private static void why(FerryDeck x, String where, long which, long side, long beyond, long lane) {
        due("why(0), " + where, x.why(0), which);
        due("why(1), " + where, x.why(1), side);
        due("why(2), " + where, x.why(2), beyond);
        due("why(3), " + where, x.why(3), lane);
    }

    /** Lane 2 (open at both ends), from place 0 on: cars for ports 1, 0, 2, 0, 1. Lane 0: a car for port 2, then 0. */
    private static FerryDeck busyDay() {
        FerryDeck x = threeLanes();
        int[] ports = {1, 0, 2, 0, 1};
        for (int i = 0; i < 5; i++) {
            car(x, ports[i]);
            x.drive(i, 2, 1);
        }
        car(x, 0);
        car(x, 2);
        x.drive(5, 0, 0);
        x.drive(6, 0, 0);
        return x;
    }

    private static void promise26() {
        due("STATE", threeLanes().arrive(), STATE);
        FerryDeck x = busyDay();
        x.sail();
        due("arrive()", x.arrive(), 3);
        due("ship(1)", x.ship(1), 1);
        due("what is MOVED comes back", x.at(2, 0), 0);
        due("at(2, 2)", x.at(2, 2), 2);
        due("at(0, 3)", x.at(0, 3), 6);
        due("at(2, 1)", x.at(2, 1), -1);
        due("of(1, 5)", x.of(1, 5), 2);
        due("arrive()", x.arrive(), 1);
        due("arrive()", x.arrive(), 0);
        due("ship(0)", x.ship(0), 0);
        due("ship(4)", x.ship(4), 7);
        due("ship(5)", x.ship(5), 4);
        due("STATE", x.arrive(), STATE);
        x = threeLanes();
        car(x, 1);
        x.load(COACH, 5, 0, 2, 0);
        x.drive(0, 1, 1);
        x.drive(1, 1, 1);
        x.sail();
        x.arrive();
        due("a coach is one that is MOVED", x.arrive(), 1);
        due("moved(0)", x.moved(0), 1);
        due("at(1, 3)", x.at(1, 3), 1);
        due("of(1, 7)", x.of(1, 7), 1);
    }

    private static void promise27() {
        FerryDeck x = busyDay();
        x.sail();
        due("moved(0)", x.moved(0), -1);
        x.arrive();
        int[] first = {6, 0, 2, -1};
        for (int i = 0; i < 4; i++) due("moved(" + i + ")", x.moved(i), first[i]);
        due("moved(-1)", x.moved(-1), -1);
        x.arrive();
        due("of equals end 0: moved(0)", x.moved(0), 2);
        due("moved(1)", x.moved(1), -1);
        x.arrive();
        due("moved(0)", x.moved(0), -1);
        x = threeLanes();
        int[] ports = {0, 2, 2, 1, 2};
        for (int i = 0; i < 5; i++) {
            car(x, ports[i]);
            x.drive(i, 2, 1);
        }
        x.sail();
        x.arrive();
        due("fewer by end 1: arrive()", x.arrive(), 1);
        due("moved(0)", x.moved(0), 4);
        x.arrive();
        x.sail();
        due("the latest port is the one of the day before", x.left(0), 1);
    }

    private static void promise28() {
        FerryDeck x = busyDay();
        x.sail();
        due("left(0)", x.left(0), -1);
        x.arrive();
        int[] first = {5, 1, 3, -1};
        for (int i = 0; i < 4; i++) due("left(" + i + ")", x.left(i), first[i]);
        due("left(-1)", x.left(-1), -1);
        x.arrive();
        due("left(0)", x.left(0), 0);
        due("left(1)", x.left(1), 4);
        x.arrive();
        due("left(0), lane by lane", x.left(0), 6);
        due("left(1)", x.left(1), 2);
        x = threeLanes();
        car(x, 1);
        car(x, 0);
        car(x, 0);
        for (int i = 0; i < 3; i++) x.drive(i, 2, 1);
        x.sail();
        x.arrive();
        due("by end 1 the last place comes first", x.left(0), 2);
        due("left(1)", x.left(1), 1);
    }

    private static void promise29() {
        FerryDeck x = busyDay();
        due("bound()", x.bound(), 4);
        x.sail();
        due("bound()", x.bound(), 4);
        x.arrive();
        due("bound()", x.bound(), 1);
        x.arrive();
        due("bound()", x.bound(), 0);
        x.arrive();
        due("bound()", x.bound(), 0);
        x = threeLanes();
        car(x, 2);
        car(x, 11);
        x.drive(0, 0, 0);
        x.drive(1, 0, 0);
        due("a port beyond the day stands in the way", x.bound(), 1);
        x.chock(0, 0);
        due("STUCK", x.bound(), STUCK);
        why(x, "bound() is no sail()", 0, 0, 0, -1);
        x.lift(0, 0);
        x.out(1, 0);
        x.out(0, 0);
        x.drive(1, 0, 0);
        x.chock(0, 0);
        due("a port beyond the day is never STUCK", x.bound(), 0);
    }

    private static void promise30() {
        FerryDeck x = busyDay();
        x.step(1, 2, 3, 4);
        int[] atQuay = {0, -1, 3, 7, 0, 0, 7, 1, 3};
        for (int i = 0; i < 9; i++) due("ship(" + i + ")", x.ship(i), atQuay[i]);
        x.sail();
        x.arrive();
        int[] atSea = {1, 1, 3, 4, 3, 3, 0, 1, 3};
        for (int i = 0; i < 9; i++) due("ship(" + i + ")", x.ship(i), atSea[i]);
        due("ship(9)", x.ship(9), -1);
        due("ship(-1)", x.ship(-1), -1);
    }

    private static void promise31() {
        FerryDeck x = threeLanes();
        due("LARGE, no load", x.least(), LARGE);
        for (int i = 0; i < 6; i++) car(x, i % 3);
        due("six loads, three lanes", x.least(), 0);
        int[] lanes = {0, 0, 0, 1, 0, 0};
        int[] places = {0, 1, 3, 0, 2, 4};
        for (int i = 0; i < 6; i++) {
            due("planned(" + i + ", 0)", x.planned(i, 0), lanes[i]);
            due("planned(" + i + ", 1)", x.planned(i, 1), places[i]);
        }
        due("nothing is driven", x.ship(3), 0);
        car(x, 0);
        due("LARGE, seven loads", x.least(), LARGE);
        due("the plan stays", x.planned(4, 1), 2);
        x.drive(6, 0, 0);
        due("TAKEN, a load is aboard", x.least(), TAKEN);
        x.undo();
        x.chock(2, 4);
        due("TAKEN ahead of LARGE", x.least(), TAKEN);
        x = threeLanes();
        car(x, 3);
        due("PORTS", x.least(), PORTS);
        x.lane(3, 1, 1, 1, 1);
        due("LARGE ahead of PORTS, four lanes", x.least(), LARGE);
        x.sail();
        due("STATE", x.least(), STATE);
        x = new FerryDeck();
        car(x, 0);
        due("LARGE, no lane", x.least(), LARGE);
        x.lane(0, 1, 50, 0, 1);
        due("one load, one lane", x.least(), 0);
        car(x, 0);
        due("NEVER, no room", x.least(), NEVER);
        due("the plan is none", x.planned(0, 0), -1);
        costsMoreThanNothing();
        leansAndDraws();
        leansByLegs();
        coachBesideAnimal();
    }

    private static void costsMoreThanNothing() {
        FerryDeck x = new FerryDeck();
        x.lane(7, 5, 50, 0, 2);
        x.day(2, 1000);
        x.load(COACH, 5, 0, 0, 0);
        car(x, 1);
        x.load(ANIMAL, 5, 0, 0, 1);
        due("the coach may not stand by the animal", x.least(), 2);
        due("planned(0, 1)", x.planned(0, 1), 0);
        due("planned(1, 1)", x.planned(1, 1), 3);
        due("planned(2, 1)", x.planned(2, 1), 4);
        x.lane(7, 5, 50, 0, 3);
        due("by the other end nothing is moved", x.least(), 0);
        due("planned(0, 1)", x.planned(0, 1), 2);
        x.lane(7, 4, 50, 0, 3);
        due("no room", x.least(), NEVER);
        x.lane(8, 2, 50, 0, 1);
        due("the animal in a lane beside", x.least(), 0);
        due("planned(0, 1)", x.planned(0, 1), 1);
        due("planned(1, 0)", x.planned(1, 0), 8);
        due("planned(2, 1)", x.planned(2, 1), 0);
        due("again() tells nothing of plans", x.again(), FOUND);
    }

    private static void leansAndDraws() {
        FerryDeck x = new FerryDeck();
        x.lane(3, 5, 50, -1, 1);
        x.lane(4, 5, 50, 1, 1);
        x.day(2, 1);
        x.load(CAR, 5, 16, 1, 0);
        x.load(CAR, 5, 16, 1, 0);
        due("one to each side", x.least(), 0);
        due("planned(0, 0)", x.planned(0, 0), 3);
        due("planned(1, 0)", x.planned(1, 0), 4);
        x.load(CAR, 5, 16, 0, 0);
        due("NEVER, it leans", x.least(), NEVER);
        x.day(2, 2);
        due("the LIMIT", x.least(), 0);
        due("planned(1, 0)", x.planned(1, 0), 3 + 1);
        why(x, "no sail()", 0, 0, 0, -1);
        x = threeLanes();
        car(x, 0);
        x.load(CART, 5, 0, 0, 0);
        x.drive(0, 0, 0);
        x.sail();
        for (int i = 0; i < 3; i++) x.arrive();
        due("NEVER, the drawer is gone", x.least(), NEVER);
    }

    /** Each leg counts for itself: the heavy car may stand alone on its side only as long as the other is aboard. */
    private static void leansByLegs() {
        FerryDeck x = new FerryDeck();
        x.lane(0, 5, 50, -1, 3);
        x.lane(1, 5, 50, 1, 3);
        x.day(2, 8);
        x.load(CAR, 5, 128, 0, 0);
        x.load(CAR, 5, 64, 1, 0);
        due("the heavy one leaves first", x.least(), 0);
        due("planned(0, 0)", x.planned(0, 0), 0);
        due("planned(1, 0)", x.planned(1, 0), 1);
        x.day(2, 7);
        due("NEVER, each leg is beyond by one", x.least(), NEVER);
        x = new FerryDeck();
        x.lane(0, 5, 50, -1, 3);
        x.lane(1, 5, 50, 1, 3);
        x.day(2, 15);
        x.load(CAR, 5, 64, 0, 0);
        x.load(CAR, 5, 128, 1, 0);
        due("NEVER, the heavy one stays alone", x.least(), NEVER);
        x.day(2, 16);
        due("at the LIMIT", x.least(), 0);
        due("planned(1, 0)", x.planned(1, 0), 1);
    }

    private static void coachBesideAnimal() {
        FerryDeck x = new FerryDeck();
        x.lane(4, 3, 30, 0, 1);
        x.lane(5, 2, 30, 0, 1);
        x.load(COACH, 10, 0, 0, 0);
        car(x, 0);
        x.load(ANIMAL, 10, 0, 0, 1);
        due("NEVER, the animal is beside the coach", x.least(), NEVER);
        x.miss(5);
        x.lane(6, 2, 30, 0, 1);
        due("a missing lane between", x.least(), 0);
        x.miss(6);
        x.lane(5, 5, 30, 0, 1);
        due("behind the coach's last place", x.least(), 0);
        due("planned(2, 1)", x.planned(2, 1), 3);
        x.lane(4, 3, 29, 0, 1);
        due("the coach is too high for lane 4", x.least(), 0);
        due("planned(0, 0)", x.planned(0, 0), 5);
        due("planned(0, 1)", x.planned(0, 1), 2);
        due("planned(1, 0)", x.planned(1, 0), 4);
        due("planned(2, 1)", x.planned(2, 1), 1);
    }

    private static void promise32() {
        FerryDeck x = threeLanes();
        car(x, 0);
        due("no plan", x.planned(0, 0), -1);
        x.least();
        due("planned(0, 0)", x.planned(0, 0), 0);
        due("planned(0, 1)", x.planned(0, 1), 4);
        due("planned(0, 2)", x.planned(0, 2), -1);
        due("planned(0, -1)", x.planned(0, -1), -1);
        car(x, 0);
        due("not in it", x.planned(1, 0), -1);
        due("no such load", x.planned(2, 0), -1);
        due("no such load", x.planned(-1, 0), -1);
        x.miss(0);
        due("the plan stays", x.planned(0, 1), 4);
        x.least();
        due("a new plan", x.planned(0, 0), 1);
    }

    private static void promise33() {
        FerryDeck x = threeLanes();
        x.chock(0, 0);
        due("TAKEN", x.stow(), TAKEN);
        x.lift(0, 0);
        due("LARGE", x.stow(), LARGE);
        due("UNDO is not forgotten", x.ship(6), 2);
        x.load(CAR, 60, 0, 0, 0);
        due("NEVER", x.stow(), NEVER);
        due("UNDO is not forgotten", x.ship(6), 2);
        x.load(CAR, 6, 0, 5, 0);
        due("PORTS", x.stow(), PORTS);
        x = threeLanes();
        x.load(COACH, 5, 0, 2, 0);
        car(x, 1);
        x.load(CART, 5, 0, 0, 1);
        car(x, 0);
        x.chock(0, 0);
        x.lift(0, 0);
        due("stow()", x.stow(), 0);
        due("UNDO is forgotten", x.ship(6), 0);
        due("undo()", x.undo(), NUMBER);
        due("ship(3)", x.ship(3), 4);
        for (int i = 0; i < 4; i++) {
            due("of(" + i + ", 6)", x.of(i, 6), x.planned(i, 0));
            due("of(" + i + ", 7)", x.of(i, 7), x.planned(i, 1));
            due("at", x.at(x.planned(i, 0), x.planned(i, 1)), i);
        }
        due("TAKEN", x.stow(), TAKEN);
        due("bound()", x.bound(), 0);
        due("sail()", x.sail(), 1);
        due("STATE", x.stow(), STATE);
    }

    private static void promise34() {
        FerryDeck x = new FerryDeck();
        for (int i = 1; i <= 200; i++) due("step", x.step(i, Integer.MIN_VALUE, Integer.MAX_VALUE, 0), i);
        due("FULL", x.step(1, 0, 0, 0), FULL);
        due("ship(7)", x.ship(7), 200);
    }

    private static void promise35() {
        FerryDeck x = new FerryDeck();
        due("forget()", x.forget(), 0);
        x.step(1, 0, 0, 0);
        x.step(1, 0, 0, 0);
        due("forget()", x.forget(), 2);
        due("forget()", x.forget(), 0);
        due("ship(7)", x.ship(7), 0);
        due("step", x.step(1, 0, 0, 0), 1);
    }

    /** A day of busyDay() as steps, from the quay to the last port. */
    private static void tellBusyDay(FerryDeck x) {
        int[][] steps = {{7, 0, 0, 0}, {1, 6, 0, 0}, {2, 6, 0, 9}, {1, 6, 0, 0}, {3, 0, 0, 0}, {4, 3, 0, 0},
            {5, 0, 6, 0}, {5, 2, 2, 0}, {6, 2, 3, 0}, {4, 1, 0, 0}, {5, 0, 2, 0}, {4, 0, 0, 0}};
        for (int[] s : steps) x.step(s[0], s[1], s[2], s[3]);
    }

    private static void promise36() {
        FerryDeck x = busyDay();
        tellBusyDay(x);
        due("check()", x.check(), 12);
        due("nothing is changed", x.ship(0), 0);
        due("nothing is changed", x.ship(6), 7);
        due("nothing is changed", x.ship(3), 7);
        due("nothing is changed", x.moved(0), -1);
        due("check() again", x.check(), 12);
        x.step(5, 1, -1, 0);
        due("b is -1", x.check(), 12);
        x.forget();
        x.step(6, 0, -1, 0);
        due("b is -1", x.check(), 0);
        x.forget();
        x.step(4, -2, 0, 0);
        due("a refusal is never so", x.check(), 0);
        int[] none = {0, 8, -1, Integer.MAX_VALUE};
        for (int op : none) {
            x.forget();
            x.step(3, 0, 0, 0);
            x.step(op, 0, 0, 0);
            x.step(4, 3, 0, 0);
            due("op " + op, x.check(), 1);
        }
        int[][] wrongSteps = {{1, 0, 0, 0}, {2, 5, 0, 0}, {4, 0, 0, 0}, {5, 0, 6, 0}, {6, 0, 5, 0}};
        for (int[] s : wrongSteps) {
            x.forget();
            x.step(s[0], s[1], s[2], s[3]);
            due("wrong step " + s[0], x.check(), 0);
        }
        due("no drive was refused", x.again(), FOUND);
        x.forget();
        x.load(CAR, 5, 80_000, 0, 0);
        x.step(1, 7, 1, 1);
        x.step(3, 0, 0, 0);
        due("it would lean", x.check(), 1);
        why(x, "no sail()", 0, 0, 0, -1);
        x.forget();
        due("no steps", x.check(), 0);
        for (int i = 0; i < 8; i++) x.step(7, 0, 0, 0);
        due("seven acts can be undone", x.check(), 7);
    }

    private static void promise37() {
        FerryDeck x = busyDay();
        due("keep(-1)", x.keep(-1), false);
        due("keep(2)", x.keep(2), false);
        due("back(0)", x.back(0), false);
        due("keep(0)", x.keep(0), true);
        x.sail();
        due("keep(1)", x.keep(1), true);
        x.arrive();
        x.back(1);
        due("ship(1)", x.ship(1), 0);
        x.back(0);
        due("ship(1)", x.ship(1), -1);
        due("ship(6)", x.ship(6), 7);
        x.undo();
        due("keep(0) anew", x.keep(0), true);
        x.undo();
        x.back(0);
        due("ship(6)", x.ship(6), 6);
    }

    private static void promise38() {
        FerryDeck x = threeLanes();
        car(x, 0);
        x.load(CAR, 1, 0, 1, 0);
        x.least();
        x.step(1, 0, 0, 0);
        x.keep(1);
        due("back(0)", x.back(0), false);
        due("back(-1)", x.back(-1), false);
        due("back(2)", x.back(2), false);
        x.day(5, 7);
        x.load(CART, 1, 0, 0, 0);
        x.drive(9, 0, 0);
        x.at(20, 0);
        x.copy(0, 0, 1);
        x.step(1, 0, 0, 0);
        x.stow();
        x.sail();
        x.arrive();
        due("back(1)", x.back(1), true);
        due("loads()", x.loads(), 2);
        due("of(0, 8)", x.of(0, 8), -1);
        due("of(0, 5)", x.of(0, 5), 0);
        due("ship(2)", x.ship(2), 3);
        due("ship(4)", x.ship(4), 0);
        due("ship(8)", x.ship(8), 3);
        due("left(0)", x.left(0), -1);
        due("planned(2, 0)", x.planned(2, 0), -1);
        due("planned(0, 1)", x.planned(0, 1), 3);
        due("STEPS are not kept", x.ship(7), 2);
        due("the sheet is not kept", x.sheet(0), -1);
        due("found() is not kept", x.found(2), 1);
        due("again() is not kept", x.again(), NUMBER);
        x.load(VAN, 1, 0, 4, 0);
        due("a new load 2", x.of(2, 0), VAN);
        due("it stays kept", x.back(1), true);
        due("loads()", x.loads(), 2);
        x.stow();
        x.sail();
        x.arrive();
        x.keep(0);
        x.arrive();
        x.arrive();
        x.back(0);
        due("left(0)", x.left(0), 0);
        due("ship(4)", x.ship(4), 1);
        due("arrive()", x.arrive(), 0);
        due("left(0)", x.left(0), 1);
        planAndLatestPortAreKept();
    }

    private static void planAndLatestPortAreKept() {
        FerryDeck x = threeLanes();
        car(x, 0);
        x.keep(0);
        x.least();
        x.keep(1);
        x.back(0);
        due("no plan was kept", x.planned(0, 0), -1);
        x.miss(0);
        x.least();
        due("another plan", x.planned(0, 0), 1);
        x.back(1);
        due("the plan's lane", x.planned(0, 0), 0);
        due("the plan's place", x.planned(0, 1), 4);
        x.drive(0, 0, 0);
        x.sail();
        for (int i = 0; i < 3; i++) x.arrive();
        car(x, 1);
        x.least();
        due("load 1 alone is planned", x.planned(1, 0), 0);
        x.back(1);
        due("the plan's load", x.planned(0, 0), 0);
        due("the other load", x.planned(1, 0), -1);
        x = busyDay();
        x.sail();
        x.arrive();
        x.keep(0);
        x.arrive();
        x.arrive();
        x.back(0);
        int[] moved = {6, 0, 2, -1};
        for (int i = 0; i < 4; i++) due("moved(" + i + ")", x.moved(i), moved[i]);
        int[] left = {5, 1, 3, -1};
        for (int i = 0; i < 4; i++) due("left(" + i + ")", x.left(i), left[i]);
        due("ship(5)", x.ship(5), 3);
        x = new FerryDeck();
        x.lane(0, 5, 50, 1, 3);
        x.load(VAN, 6, 80, 0, 0);
        x.load(CART, 6, 80, 0, 0);
        x.day(2, 77);
        x.drive(0, 0, 0);
        x.out(0, 1);
        x.chock(0, 3);
        x.keep(0);
        x.undo();
        x.day(3, 5);
        x.miss(0);
        x.back(0);
        due("kind", x.of(0, 0), VAN);
        due("tall", x.of(0, 2), 16);
        due("drawer", x.drawer(1), 0);
        due("a chock lies", x.lane(0, 5, 50, 1, 3), TAKEN);
        due("undo chock", x.undo(), 1);
        due("undo out", x.undo(), 1);
        due("at(0, 4)", x.at(0, 4), 0);
        due("sail() within the LIMIT", x.sail(), 1);
    }

    private static void promise39() {
        FerryDeck x = threeLanes();
        car(x, 0);
        due("found(0)", x.found(0), 0);
        x.at(9, 0);
        due("found(0)", x.found(0), 1);
        x.at(20, 0);
        due("found(0)", x.found(0), 2);
        x.lane(0, -1, 1, 1, 1);
        due("found(0)", x.found(0), 3);
        x.more(0);
        due("found(0)", x.found(0), 4);
        x.copy(0, 0, 6);
        due("found(0)", x.found(0), 5);
        x.again();
        due("found(0)", x.found(0), 6);
        x.sheet(40);
        int[] want = {2, 1, 2, 1, 1, 1, 1};
        for (int i = 0; i < 7; i++) due("found(" + i + ")", x.found(i), want[i]);
        due("found(7)", x.found(7), -1);
        due("found(-1)", x.found(-1), -1);
        x.drive(9, 9, 9);
        x.chock(20, 0);
        x.free(20, 0);
        x.miss(20);
        due("refusals are no findings", x.found(0), 2);
    }

    public static void main(String[] args) {
        Runnable[] promises = {PromisesTest::promise1, PromisesTest::promise2, PromisesTest::promise3,
            PromisesTest::promise4, PromisesTest::promise5, PromisesTest::promise6, PromisesTest::promise7,
            PromisesTest::promise8, PromisesTest::promise9, PromisesTest::promise10, PromisesTest::promise11,
            PromisesTest::promise12, PromisesTest::promise13, PromisesTest::promise14, PromisesTest::promise15,
            PromisesTest::promise16, PromisesTest::promise17, PromisesTest::promise18, PromisesTest::promise19,
            PromisesTest::promise20, PromisesTest::promise21, PromisesTest::promise22, PromisesTest::promise23,
            PromisesTest::promise24, PromisesTest::promise25, PromisesTest::promise26, PromisesTest::promise27,
            PromisesTest::promise28, PromisesTest::promise29, PromisesTest::promise30, PromisesTest::promise31,
            PromisesTest::promise32, PromisesTest::promise33, PromisesTest::promise34, PromisesTest::promise35,
            PromisesTest::promise36, PromisesTest::promise37, PromisesTest::promise38, PromisesTest::promise39};
        for (promise = 1; promise <= promises.length; promise++) promises[promise - 1].run();
        System.out.println(wrong == 0 ? "all " + checks + " answers are as due" : wrong + " answers are not as due");
        if (wrong != 0) System.exit(1);
    }
}
