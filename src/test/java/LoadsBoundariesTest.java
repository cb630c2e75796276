/** Promises 12 to 17, the loads: each sentence that names a boundary case has a test of its own. */
public final class LoadsBoundariesTest extends Boundaries {
    private static final int MOST_LOADS = 400;
    private static final int[] NO_LOADS = {-1, LOWEST, 6, 399, 400, HIGHEST};

    private static void load() {
        promise(12, "load");
        says("A load is told: its number, from 0 on", () -> {
            FerryDeck x = new FerryDeck();
            for (int i = 0; i < 5; i++) due(i, x, "load", CAR, 10, 8, 0, 0);
        });
        says("A load is told: its number, a refused one takes none", () -> {
            FerryDeck x = rich();
            due(NUMBER, x, "load", CAR, 0, 8, 0, 0);
            due(DRAWS, x, "load", CART, 10, 8, 0, 0);
            due(6, x, "load", CAR, 10, 8, 0, 0);
        });
        says("NUMBER: kind isn't 1 .. 5", () -> {
            for (int kind : new int[] {0, -1, LOWEST, 6, HIGHEST}) refuses(NUMBER, RICH, "load", kind, 10, 8, 0, 3);
        });
        says("NUMBER: kind isn't 1 .. 5, the least and the most are", () -> {
            FerryDeck x = rich();
            for (int kind = CAR; kind <= ANIMAL; kind++) {
                due(kind + 5, x, "load", kind, 10, 8, 0, kind + 4);
                due(kind, x, "of", kind + 5, 0);
            }
        });
        says("NUMBER: height not 1 .. 1000", () -> {
            for (int height : new int[] {0, -1, LOWEST, 1001, HIGHEST})
                for (int kind = CAR; kind <= ANIMAL; kind++) refuses(NUMBER, RICH, "load", kind, height, 8, 0, 3);
        });
        says("NUMBER: height not 1 .. 1000, the least and the most are", () -> {
            FerryDeck x = new FerryDeck();
            due(0, x, "load", CAR, 1, 8, 0, 0);
            due(1, x, "load", COACH, 1000, 8, 0, 0);
            due(1, x, "of", 0, 2);
            due(1020, x, "of", 1, 2);
        });
        says("NUMBER: weight not 0 .. 8,000,000", () -> {
            for (int weight : new int[] {-1, LOWEST, 8_000_001, HIGHEST})
                for (int kind = CAR; kind <= ANIMAL; kind++) refuses(NUMBER, RICH, "load", kind, 10, weight, 0, 3);
        });
        says("NUMBER: weight not 0 .. 8,000,000, the least and the most are", () -> {
            FerryDeck x = new FerryDeck();
            due(0, x, "load", CAR, 10, 0, 0, 0);
            due(1, x, "load", COACH, 10, 8_000_000, 0, 0);
            due(0, x, "of", 0, 3);
            due(2_000_000, x, "of", 1, 3);
        });
        says("NUMBER: of CAR, VAN, COACH: port isn't 0 .. 11", () -> {
            for (int port : new int[] {-1, LOWEST, 12, HIGHEST})
                for (int kind = CAR; kind <= COACH; kind++) refuses(NUMBER, RICH, "load", kind, 10, 8, port, 3);
        });
        says("NUMBER: of CAR, VAN, COACH: port isn't 0 .. 11, the first and the last one are", () -> {
            FerryDeck x = new FerryDeck();
            for (int kind = CAR; kind <= COACH; kind++) {
                due(2 * kind - 2, x, "load", kind, 10, 8, 0, 0);
                due(2 * kind - 1, x, "load", kind, 10, 8, 11, 0);
                due(0, x, "of", 2 * kind - 2, 4);
                due(11, x, "of", 2 * kind - 1, 4);
            }
        });
        says("of CAR, VAN, COACH: (drawer counts nothing)", () -> {
            FerryDeck x = rich();
            int number = 6;
            for (int kind = CAR; kind <= COACH; kind++)
                for (int drawer : new int[] {-1, LOWEST, HIGHEST, 400, 0, 5, 3})
                    due(number++, x, "load", kind, 10, 8, 0, drawer);
            due(-1, x, "of", 3, 8);
            due(1, x, "of", 0, 8);
        });
        drawnLoads();
        fullOfLoads();
    }

    private static void drawnLoads() {
        says("NUMBER: of CART, ANIMAL: drawer is no load", () -> {
            for (int drawer : NO_LOADS)
                for (int kind = CART; kind <= ANIMAL; kind++) refuses(NUMBER, RICH, "load", kind, 10, 8, 0, drawer);
        });
        says("NUMBER: of CART, ANIMAL: drawer is no load, the first and the last one are", () -> {
            FerryDeck x = new FerryDeck();
            due(NUMBER, x, "load", CART, 10, 8, 0, 0);
            car(x, 3);
            car(x, 4);
            due(2, x, "load", CART, 10, 8, 0, 0);
            due(3, x, "load", ANIMAL, 10, 8, 0, 2);
            due(4, x, "load", CART, 10, 8, 0, 1);
        });
        says("of CART, ANIMAL: (port counts nothing)", () -> {
            int[] ports = {-1, LOWEST, 12, HIGHEST};
            for (int port : ports)
                for (int kind = CART; kind <= ANIMAL; kind++) {
                    FerryDeck x = rich();
                    due(6, x, "load", kind, 10, 8, port, 3);
                    due(2, x, "of", 6, 4);
                }
        });
        says("DRAWS: the drawer is an ANIMAL", () -> {
            refuses(DRAWS, RICH, "load", CART, 10, 8, 0, 5);
            refuses(DRAWS, RICH, "load", ANIMAL, 10, 8, 0, 5);
        });
        says("DRAWS: some load is DRAWN by it", () -> {
            for (int drawer : new int[] {0, 4})
                for (int kind = CART; kind <= ANIMAL; kind++) refuses(DRAWS, RICH, "load", kind, 10, 8, 0, drawer);
        });
        says("DRAWS: some load is DRAWN by it, or may be: a CART and a COACH", () -> {
            due(6, rich(), "load", CART, 10, 8, 0, 1);
            due(6, rich(), "load", ANIMAL, 10, 8, 0, 3);
        });
        says("NUMBER comes ahead of DRAWS", () -> {
            refuses(NUMBER, RICH, "load", CART, 0, 8, 0, 0);
            refuses(NUMBER, RICH, "load", ANIMAL, 10, -1, 0, 5);
        });
        says("TAKEN: the drawer is GONE", () -> {
            refuses(TAKEN, AT_SEA, "load", CART, 10, 8, 0, 2);
            refuses(TAKEN, AT_SEA, "load", ANIMAL, 10, 8, 0, 2);
        });
        says("TAKEN: the drawer is GONE, ABOARD or at the QUAY it isn't", () -> {
            due(6, atSea(), "load", CART, 10, 8, 0, 3);
            due(6, atSea(), "load", CART, 10, 8, 0, 1);
            FerryDeck x = atSea();
            car(x, 1);
            due(7, x, "load", CART, 10, 8, 0, 6);
        });
        says("NUMBER comes ahead of TAKEN", () -> refuses(NUMBER, AT_SEA, "load", CART, 1001, 8, 0, 2));
        says("DRAWS comes ahead of TAKEN", () -> {
            FerryDeck x = atSea();
            x.arrive();
            due(GONE, x, "of", 0, 5);
            due(DRAWS, x, "load", CART, 10, 8, 0, 0);
            due(TAKEN, x, "load", CART, 10, 8, 0, 1);
        });
    }

    /** 400 loads: 0 is GONE, 1 draws 2, the others are cars at the QUAY. */
    private static FerryDeck full() {
        FerryDeck x = new FerryDeck();
        x.lane(0, 5, 50, 0, 1);
        car(x, 0);
        x.drive(0, 0, 0);
        x.sail();
        x.arrive();
        car(x, 0);
        x.load(CART, 10, 8, 0, 1);
        for (int i = 3; i < MOST_LOADS; i++) car(x, 0);
        return x;
    }

    private static void fullOfLoads() {
        says("FULL: there are 400 loads", () -> {
            FerryDeck x = full();
            due(MOST_LOADS, x, "loads");
            for (int kind = CAR; kind <= ANIMAL; kind++) due(FULL, x, "load", kind, 10, 8, 0, 3);
            due(MOST_LOADS, x, "loads");
            due(-1, x, "of", 3, 8);
        });
        says("FULL: there are 400 loads, the 400th is told", () -> {
            FerryDeck x = new FerryDeck();
            for (int i = 0; i < MOST_LOADS; i++) due(i, x, "load", CAR, 10, 8, 0, 0);
            due(FULL, x, "load", CAR, 10, 8, 0, 0);
            due(CAR, x, "of", MOST_LOADS - 1, 0);
        });
        says("NUMBER comes ahead of FULL", () -> {
            FerryDeck x = full();
            due(NUMBER, x, "load", 0, 10, 8, 0, 0);
            due(NUMBER, x, "load", CAR, 0, 8, 0, 0);
            due(NUMBER, x, "load", CAR, 10, -1, 0, 0);
            due(NUMBER, x, "load", CAR, 10, 8, 12, 0);
            due(NUMBER, x, "load", CART, 10, 8, 0, 400);
        });
        says("DRAWS comes ahead of FULL", () -> due(DRAWS, full(), "load", CART, 10, 8, 0, 1));
        says("TAKEN comes ahead of FULL", () -> due(TAKEN, full(), "load", CART, 10, 8, 0, 0));
    }

    private static void of() {
        promise(13, "of");
        says("NUMBER: another what", () -> {
            for (int what : new int[] {-1, LOWEST, 9, HIGHEST}) refuses(NUMBER, RICH, "of", 0, what);
        });
        says("NUMBER: another what (looked at first)", () -> {
            for (int load : NO_LOADS) refuses(NUMBER, RICH, "of", load, 9);
        });
        says("FOUND: BEYOND: there is no such load", () -> {
            for (int load : NO_LOADS) for (int what = 0; what < 9; what++) finds(BEYOND, RICH, "of", load, what);
        });
        says("FOUND: BEYOND: there is no such load, in a new object", () -> finds(BEYOND, NEW, "of", 0, 0));
        says("1 SPAN: 3 for a COACH, else 1", () -> {
            for (int load = 0; load < 6; load++) due(load == 3 ? 3 : 1, rich(), "of", load, 1);
        });
        says("2 TALL: the height; of a VAN 10 more, of a COACH 20 more", () -> {
            int[] tall = {10, 10, 20, 30, 10, 10};
            for (int load = 0; load < 6; load++) due(tall[load], rich(), "of", load, 2);
        });
        says("3 UNITS: a whole eight of eighths is one, what is left counts nothing", () -> {
            int[][] units = {{0, 0}, {7, 0}, {8, 1}, {15, 1}, {16, 2}, {7_999_999, 999_999}, {8_000_000, 1_000_000}};
            for (int[] u : units) {
                due(u[1], ofEachKind(u[0]), "of", CAR - 1, 3);
                due(u[1], ofEachKind(u[0]), "of", VAN - 1, 3);
                due(u[1], ofEachKind(u[0]), "of", CART - 1, 3);
            }
        });
        says("3 UNITS: of a COACH twice that", () -> {
            int[][] units = {{0, 0}, {7, 0}, {8, 2}, {15, 2}, {16, 4}, {7_999_999, 1_999_998}, {8_000_000, 2_000_000}};
            for (int[] u : units) due(u[1], ofEachKind(u[0]), "of", COACH - 1, 3);
        });
        says("3 UNITS: of an ANIMAL one more than that", () -> {
            int[][] units = {{0, 1}, {7, 1}, {8, 2}, {15, 2}, {16, 3}, {7_999_999, 1_000_000}, {8_000_000, 1_000_001}};
            for (int[] u : units) due(u[1], ofEachKind(u[0]), "of", ANIMAL - 1, 3);
        });
        says("4 PORT, of one that is DRAWN its DRAWER's", () -> {
            int[] ports = {1, 1, 0, 2, 5, 5};
            for (int load = 0; load < 6; load++) due(ports[load], rich(), "of", load, 4);
        });
        says("5 0 at the QUAY, 1 ABOARD, 2 GONE", () -> {
            int[] states = {ABOARD, ABOARD, GONE, ABOARD, AT_QUAY, AT_QUAY};
            for (int load = 0; load < 6; load++) due(states[load], atSea(), "of", load, 5);
        });
        says("6 its lane, 7 its PLACE", () -> {
            int[] lanes = {0, 0, 0, 2};
            int[] places = {3, 2, 4, 2};
            for (int load = 0; load < 4; load++) {
                due(lanes[load], rich(), "of", load, 6);
                due(places[load], rich(), "of", load, 7);
            }
        });
        says("6, 7 (both -1 if it isn't ABOARD), at the QUAY", () -> {
            for (int what = 6; what < 8; what++) due(-1, rich(), "of", 4, what);
            for (int what = 6; what < 8; what++) due(-1, rich(), "of", 5, what);
        });
        says("A load is at the QUAY (as it is told)", () -> {
            FerryDeck x = rich();
            due(6, x, "load", VAN, 10, 8, 0, 0);
            int[] want = {VAN, 1, 20, 1, 0, AT_QUAY, -1, -1, -1};
            for (int what = 0; what < 9; what++) due(want[what], x, "of", 6, what);
        });
        says("6, 7 (both -1 if it isn't ABOARD), GONE", () -> {
            for (int what = 6; what < 8; what++) due(-1, atSea(), "of", 2, what);
        });
        says("6, 7 (both -1 if it isn't ABOARD), behind out() and undo()", () -> {
            FerryDeck x = rich();
            x.out(1, 0);
            for (int what = 6; what < 8; what++) due(-1, x, "of", 1, what);
            x.undo();
            due(0, x, "of", 1, 6);
            due(2, x, "of", 1, 7);
        });
        says("8 which load it draws (-1 none)", () -> {
            int[] draws = {1, -1, -1, -1, 5, -1};
            for (int load = 0; load < 6; load++) due(draws[load], rich(), "of", load, 8);
        });
        says("8 which load it draws, also if both are GONE", () -> {
            FerryDeck x = atSea();
            x.arrive();
            due(1, x, "of", 0, 8);
        });
    }

    /** Loads 0 .. 4 are of KINDS 1 .. 5. */
    private static FerryDeck ofEachKind(int weight) {
        FerryDeck x = new FerryDeck();
        for (int kind = CAR; kind <= ANIMAL; kind++) x.load(kind, 1000, weight, 0, kind - 2);
        return x;
    }

    private static void more() {
        promise(14, "more");
        says("By how much TALL of a VAN or COACH is more than its height", () -> {
            due(10, ofEachKind(0), "more", VAN - 1);
            due(20, ofEachKind(0), "more", COACH - 1);
        });
        says("FOUND: BEYOND: there is no such load", () -> {
            for (int load : NO_LOADS) finds(BEYOND, RICH, "more", load);
            finds(BEYOND, NEW, "more", 0);
        });
        says("CAST: it is of another KIND", () -> {
            for (int kind : new int[] {CAR, CART, ANIMAL}) finds(CAST, () -> ofEachKind(0), "more", kind - 1);
        });
    }

    private static void drawer() {
        promise(15, "drawer");
        says("The DRAWER of a CART or ANIMAL", () -> {
            due(2, ofEachKind(0), "drawer", CART - 1);
            due(3, ofEachKind(0), "drawer", ANIMAL - 1);
        });
        says("The DRAWER of a CART or ANIMAL, load 0 and one that is GONE", () -> {
            FerryDeck x = atSea();
            x.arrive();
            due(GONE, x, "of", 0, 5);
            due(0, x, "drawer", 1);
        });
        says("FOUND: BEYOND: there is no such load", () -> {
            for (int load : NO_LOADS) finds(BEYOND, RICH, "drawer", load);
            finds(BEYOND, NEW, "drawer", 0);
        });
        says("CAST: it is of another KIND", () -> {
            for (int kind : new int[] {CAR, VAN, COACH}) finds(CAST, () -> ofEachKind(0), "drawer", kind - 1);
        });
    }

    private static void loads() {
        promise(16, "loads");
        says("How many loads were told, none", () -> due(0, new FerryDeck(), "loads"));
        says("How many loads were told, a refused one isn't", () -> {
            FerryDeck x = rich();
            x.load(CAR, 10, 8, 12, 0);
            due(6, x, "loads");
        });
        says("How many loads were told, GONE or not", () -> due(6, atSea(), "loads"));
        says("How many loads were told, 400", () -> due(400, full(), "loads"));
    }

    private static void near() {
        promise(17, "near");
        says("in one lane and their numbers differ by one", () -> {
            due(YES, rich(), "near", 1, 0);
            due(YES, rich(), "near", 0, 1);
            due(YES, rich(), "near", 0, 2);
        });
        says("in one lane and their numbers differ by one, by two they aren't NEXT", () -> {
            due(NO, rich(), "near", 1, 2);
            due(NO, rich(), "near", 2, 1);
        });
        says("in one lane, the first and the last place of a COACH", () -> {
            FerryDeck x = besideCoach(2);
            for (int place = 0; place < 7; place++) due(place == 0 || place == 4 ? YES : NO, x, "near", 0, 1 + place);
            for (int place = 0; place < 7; place++) due(place == 0 || place == 4 ? YES : NO, x, "near", 1 + place, 0);
        });
        says("they have one number and are in lanes whose numbers differ by one", () -> {
            for (int lane : new int[] {1, 3}) {
                FerryDeck x = besideCoach(lane);
                for (int place = 0; place < 7; place++) {
                    due(place >= 1 && place <= 3 ? YES : NO, x, "near", 0, 1 + place);
                    due(place >= 1 && place <= 3 ? YES : NO, x, "near", 1 + place, 0);
                }
            }
        });
        says("lanes whose numbers differ by one, by two they aren't NEXT", () -> {
            FerryDeck x = besideCoach(4);
            for (int place = 0; place < 7; place++) due(NO, x, "near", 0, 1 + place);
            x = besideCoach(0);
            for (int place = 0; place < 7; place++) due(NO, x, "near", 1 + place, 0);
        });
        says("lanes whose numbers differ by one, the first and the last lane aren't NEXT", () -> {
            FerryDeck x = new FerryDeck();
            x.lane(0, 1, 50, 0, 1);
            x.lane(19, 1, 50, 0, 1);
            for (int i = 0; i < 2; i++) car(x, 0);
            x.drive(0, 0, 0);
            x.drive(1, 19, 0);
            due(NO, x, "near", 0, 1);
            due(NO, x, "near", 1, 0);
        });
        says("in one lane, the last place of a lane isn't NEXT to the first one of the lane behind it", () -> {
            FerryDeck x = new FerryDeck();
            x.lane(0, 2, 50, 0, 1);
            x.lane(1, 2, 50, 0, 2);
            for (int i = 0; i < 2; i++) car(x, 0);
            due(1, x, "drive", 0, 0, 0);
            due(0, x, "drive", 1, 1, 1);
            due(NO, x, "near", 0, 1);
            due(NO, x, "near", 1, 0);
        });
        says("two different loads", () -> {
            for (int load = 0; load < 4; load++) due(NO, rich(), "near", load, load);
        });
        says("that are ABOARD, one is at the QUAY", () -> {
            for (int load = 0; load < 6; load++) {
                due(NO, rich(), "near", load, 4);
                due(NO, rich(), "near", 4, load);
            }
            due(NO, rich(), "near", 4, 5);
        });
        says("that are ABOARD, one is GONE", () -> {
            due(YES, rich(), "near", 0, 2);
            due(NO, atSea(), "near", 0, 2);
            due(NO, atSea(), "near", 2, 0);
            due(YES, atSea(), "near", 0, 1);
        });
        says("false if there is no such load", () -> {
            for (int load : NO_LOADS) {
                due(NO, rich(), "near", load, 0);
                due(NO, rich(), "near", 0, load);
                due(NO, rich(), "near", load, load);
            }
            due(NO, new FerryDeck(), "near", 0, 0);
        });
        says("false if there is no such load, and no FINDING", () -> {
            FerryDeck x = rich();
            x.near(-1, 6);
            due(0, x, "found", 2);
        });
    }

    /**
     * The coach 0 at places 1 .. 3 of lane 2, cars 1 .. 7 at places 0 .. 6 of a lane; in lane 2 itself those alone that
     * have room there.
     */
    private static FerryDeck besideCoach(int lane) {
        FerryDeck x = new FerryDeck();
        for (int i = 0; i < 5; i++) x.lane(i, 7, 50, 0, 3);
        x.load(COACH, 10, 8, 0, 0);
        for (int i = 0; i < 7; i++) car(x, 0);
        if (lane == 2) x.drive(1, 2, 1);
        else x.chock(2, 0);
        x.drive(0, 2, 1);
        for (int i = lane == 2 ? 4 : 0; i < 7; i++) x.drive(1 + i, lane, 1);
        return x;
    }

    public static void main(String[] args) {
        begin(args);
        load();
        of();
        more();
        drawer();
        loads();
        near();
        end();
    }
}
