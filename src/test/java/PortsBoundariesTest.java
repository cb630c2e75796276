import java.util.Arrays;

/** Promises 26 to 28, at the ports: each sentence that names a boundary case has a test of its own. */
public final class PortsBoundariesTest extends Boundaries {
    private static final int[] NO_LOADS = {};

    /** At SEA ahead of port 0 of four, lane 5 as row() has it. */
    private static FerryDeck sailing(int ends, int... places) {
        FerryDeck x = new FerryDeck();
        x.day(4, 1000);
        row(x, 5, ends, places);
        due(1, x, "sail");
        return x;
    }

    /** Port 0 is come to: those are MOVED and those are GONE, in this order. */
    private static FerryDeck dueAtPort0(FerryDeck x, int[] moved, int[] left) {
        due(moved.length, x, "arrive");
        dueLoads(x, "moved", moved);
        dueLoads(x, "left", left);
        for (int load : moved) due(ABOARD, x, "of", load, 5);
        for (int load : left) due(GONE, x, "of", load, 5);
        return x;
    }

    private static int[] loads(int... numbers) {
        return numbers;
    }

    private static void arrive() {
        promise(26, "arrive");
        says("STATE: not at SEA, ahead of the first day", () -> {
            refuses(STATE, NEW, "arrive");
            refuses(STATE, RICH, "arrive");
        });
        says("STATE: not at SEA, behind a day", () -> refuses(STATE, () -> {
            FerryDeck x = atSea();
            x.arrive();
            x.arrive();
            return x;
        }, "arrive"));
        says("Behind port P - 1 the ship is at the QUAY, P is 1", () -> {
            FerryDeck x = new FerryDeck();
            x.sail();
            due(0, x, "arrive");
            due(0, x, "ship", 0);
            due(-1, x, "ship", 1);
        });
        says("Behind port P - 1 the ship is at the QUAY, P is 12", () -> {
            FerryDeck x = new FerryDeck();
            x.day(12, 0);
            x.sail();
            for (int port = 0; port < 12; port++) {
                due(1, x, "ship", 0);
                due(port, x, "ship", 1);
                due(0, x, "arrive");
            }
            due(0, x, "ship", 0);
            due(STATE, x, "arrive");
        });
        says("Behind port P - 1 the ship is at the QUAY, and sails again to port 0", () -> {
            FerryDeck x = new FerryDeck();
            x.sail();
            x.arrive();
            due(1, x, "sail");
            due(0, x, "ship", 1);
        });
        says("how many are MOVED: Without any LEAVERS nothing is done", () -> {
            FerryDeck x = dueAtPort0(sailing(3, 1, EMPTY, 2, CHOCKED, 3), NO_LOADS, NO_LOADS);
            dueRow(x, 5, 0, NOTHING, 1, A_CHOCK, 2);
        });
        says("how many are MOVED: without any load nothing is done", () ->
            dueAtPort0(sailing(3, EMPTY, EMPTY), NO_LOADS, NO_LOADS));
        says("LEAVERS are the loads in it whose PORT is k, the last PORT too", () -> {
            FerryDeck x = sailing(1, 3, 2, 1, 0);
            int[] moved = {3, 2, 1, 0};
            for (int port = 0; port < 4; port++) {
                due(moved[port], x, "arrive");
                dueLoads(x, "left", 3 - port);
            }
            due(4, x, "ship", 4);
        });
        says("a LEAVER is GONE (its places are empty), a COACH", () -> {
            FerryDeck x = dueAtPort0(sailing(1, 1, COACH_FOR, SAME_COACH, SAME_COACH, 2), loads(0), loads(1));
            dueRow(x, 5, 0, NOTHING, NOTHING, NOTHING, 2);
        });
        says("those that are MOVED come back to the places where they stood", () -> {
            FerryDeck x = sailing(1, 1, EMPTY, COACH_FOR + 2, SAME_COACH, SAME_COACH, EMPTY, 0, 3);
            dueAtPort0(x, loads(0, 1), loads(2));
            dueRow(x, 5, 0, NOTHING, 1, 1, 1, NOTHING, NOTHING, 3);
            due(5, x, "of", 1, 6);
            due(2, x, "of", 1, 7);
        });
        says("a COACH in the way counts once", () -> {
            dueAtPort0(sailing(1, COACH_FOR + 1, SAME_COACH, SAME_COACH, 0), loads(0), loads(1));
            dueAtPort0(sailing(2, 0, COACH_FOR + 1, SAME_COACH, SAME_COACH), loads(1), loads(0));
            dueAtPort0(sailing(3, COACH_FOR + 1, SAME_COACH, SAME_COACH, 0, 1, 1), loads(0), loads(1));
        });
        says("(What stands behind the last LEAVER stays.)", () -> {
            dueAtPort0(sailing(1, 0, 1, 2, 3), NO_LOADS, loads(0));
            dueAtPort0(sailing(2, 3, 2, 1, 0), NO_LOADS, loads(3));
            dueAtPort0(sailing(1, 1, 0, 2, 0, 3), loads(0, 2), loads(1, 3));
        });
        clearEnds();
    }

    private static void clearEnds() {
        says("Of two CLEAR ends that counts by which fewer are in the way, end 0", () -> {
            dueAtPort0(sailing(3, 1, 0, 1, 1), loads(0), loads(1));
            dueAtPort0(sailing(3, 0, 1, 1), NO_LOADS, loads(0));
        });
        says("Of two CLEAR ends that counts by which fewer are in the way, end 1", () -> {
            dueAtPort0(sailing(3, 1, 1, 0, 1), loads(3), loads(2));
            dueAtPort0(sailing(3, 1, 1, 0), NO_LOADS, loads(2));
        });
        says("of equals end 0", () -> {
            dueAtPort0(sailing(3, 1, 0, 2), loads(0), loads(1));
            dueAtPort0(sailing(3, 1, 0, 1, 0, 1), loads(0, 2), loads(1, 3));
            dueAtPort0(sailing(3, EMPTY, 0, 0, EMPTY), NO_LOADS, loads(0, 1));
        });
        says("that aren't LEAVERS: LEAVERS are not in each other's way", () -> {
            dueAtPort0(sailing(3, 0, 0, 1, 0), loads(2), loads(0, 1, 3));
            dueAtPort0(sailing(1, 0, 0, 0), NO_LOADS, loads(0, 1, 2));
        });
        says("An end is CLEAR if it is OPEN, the other one has fewer in the way", () -> {
            dueAtPort0(sailing(1, 1, 1, 0), loads(0, 1), loads(2));
            dueAtPort0(sailing(2, 0, 1, 1), loads(2, 1), loads(0));
        });
        says("An end is CLEAR if no CHOCK is NEARER, the other one has fewer in the way", () -> {
            dueAtPort0(sailing(3, 1, 1, 0, CHOCKED), loads(0, 1), loads(2));
            dueAtPort0(sailing(3, CHOCKED, 0, 1, 1), loads(2, 1), loads(0));
        });
        says("no CHOCK is NEARER to it than a place of a LEAVER, one that is deeper hinders nothing", () -> {
            dueAtPort0(sailing(1, 1, 0, CHOCKED), loads(0), loads(1));
            dueAtPort0(sailing(2, CHOCKED, 0, 1), loads(1), loads(0));
        });
        says("from that end on, by DEPTH", () -> {
            dueAtPort0(sailing(1, 1, 0, 2, 0, 3, 0), loads(0, 2, 4), loads(1, 3, 5));
            dueAtPort0(sailing(2, 0, 3, 0, 2, 0, 1), loads(5, 3, 1), loads(4, 2, 0));
        });
        says("lane by lane (0 .. 19), in lanes that are there", () -> {
            FerryDeck x = new FerryDeck();
            x.day(2, 1000);
            for (int lane : new int[] {19, 7, 0}) row(x, lane, 1, 1, 0);
            x.sail();
            dueAtPort0(x, loads(4, 2, 0), loads(5, 3, 1));
            due(3, x, "ship", 5);
        });
    }

    private static void moved() {
        promise(27, "moved");
        says("-1: none such, before the first port", () -> {
            due(-1, new FerryDeck(), "moved", 0);
            due(-1, rich(), "moved", 0);
        });
        says("-1: none such, i is too small", () -> {
            for (int i : new int[] {-1, LOWEST}) due(-1, atSea(), "moved", i);
        });
        says("-1: none such, i is too large", () -> {
            for (int i : new int[] {2, 399, 400, HIGHEST}) due(-1, atSea(), "moved", i);
        });
        says("the i-th (from 0 on) to be MOVED", () -> {
            due(1, atSea(), "moved", 0);
            due(0, atSea(), "moved", 1);
        });
        says("at the latest port, where none was MOVED", () -> {
            FerryDeck x = atSea();
            due(0, x, "arrive");
            dueLoads(x, "moved");
        });
        says("the most that can be MOVED at one port", () -> {
            FerryDeck x = new FerryDeck();
            x.day(2, 1000);
            int[] places = new int[40];
            Arrays.fill(places, 0, 39, 1);
            for (int lane = 0; lane < 4; lane++) row(x, lane, 1, places);
            x.sail();
            due(156, x, "arrive");
            due(0, x, "moved", 0);
            due(158, x, "moved", 155);
            due(-1, x, "moved", 156);
            due(159, x, "left", 3);
            due(-1, x, "left", 4);
        });
    }

    private static void left() {
        promise(28, "left");
        says("-1: none such, before the first port", () -> {
            due(-1, new FerryDeck(), "left", 0);
            due(-1, rich(), "left", 0);
        });
        says("-1: none such, i is too small", () -> {
            for (int i : new int[] {-1, LOWEST}) due(-1, atSea(), "left", i);
        });
        says("-1: none such, i is too large", () -> {
            for (int i : new int[] {1, 399, 400, HIGHEST}) due(-1, atSea(), "left", i);
        });
        says("the i-th to be GONE", () -> {
            FerryDeck x = atSea();
            due(2, x, "left", 0);
            x.arrive();
            dueLoads(x, "left", 1, 0);
        });
        says("a COACH is GONE once", () -> {
            for (int ends = 1; ends <= 3; ends++)
                dueLoads(dueAtPort0(sailing(ends, COACH_FOR, SAME_COACH, SAME_COACH), NO_LOADS, loads(0)), "left", 0);
        });
        says("at the latest port, a refused arrive() is none", () -> {
            FerryDeck x = sailing(1, 3, 2, 1, 0);
            x.arrive();
            dueLoads(x, "moved", 0, 1, 2);
            for (int i = 0; i < 3; i++) x.arrive();
            dueLoads(x, "moved");
            due(STATE, x, "arrive");
            dueLoads(x, "left", 0);
        });
        says("at the latest port, a sail() is none", () -> {
            FerryDeck x = new FerryDeck();
            row(x, 0, 1, 0);
            x.sail();
            x.arrive();
            x.sail();
            dueLoads(x, "left", 0);
            x.arrive();
            dueLoads(x, "left");
        });
        says("at the latest port, where none was GONE", () -> {
            FerryDeck x = sailing(1, 0, 2);
            x.arrive();
            x.arrive();
            dueLoads(x, "left");
        });
    }

    public static void main(String[] args) {
        begin(args);
        arrive();
        moved();
        left();
        end();
    }
}
