/** Lands and wars that several tests begin with. */
final class Worlds {
    private Worlds() {
    }

    /** A chain of STATIONS without water with 9 ENGINES each, and of LINES from STATION 0 on. */
    static ThirteenthDay chain(int stations, int ramps, int sidings, int blocks, boolean isDouble, int grade) {
        ThirteenthDay x = new ThirteenthDay();
        for (int k = 0; k < stations; k++) {
            x.station(ramps, sidings, 9, false);
        }
        for (int k = 1; k < stations; k++) {
            x.line(k - 1, k, blocks, isDouble, grade);
        }
        return x;
    }

    /**
     * From 0 to 3 there are LINE 1 alone, and over 2 LINES 0 and 2, in the same TIME of 4: of LINES at 3 the smallest
     * one leads over 2, of LINES at 0 the smallest one does not. So the way there is not the way back.
     */
    static ThirteenthDay anotherWayBack() {
        ThirteenthDay x = new ThirteenthDay();
        for (int k = 0; k < 4; k++) {
            x.station(3, 5, 9, false);
        }
        x.line(2, 3, 1, true, 0);
        x.line(0, 3, 2, true, 0);
        x.line(0, 2, 1, true, 0);
        return x;
    }

    /** One STATION that is all: HOME, and RAILHEAD of SECTORS 0 and 1 (MARCH 6); nobody needs a LINE. */
    static ThirteenthDay camp() {
        ThirteenthDay x = new ThirteenthDay();
        x.station(3, 5, 9, false);
        x.railhead(0, 0, 6);
        x.railhead(1, 0, 6);
        return x;
    }

    /** A UNIT at STATION 0 that is PLANNED from now on and ORDERED. */
    static int send(ThirteenthDay x, int kind, int loads, int sector) {
        int unit = x.unit(kind, loads, 0, sector);
        x.plan(unit, x.many(0));
        x.order(1 << unit);
        return unit;
    }

    static void passTo(ThirteenthDay x, int tick) {
        for (int k = 0; k < 30 && x.many(0) < tick; k++) {
            x.pass(Math.min(144, tick - x.many(0)));
        }
    }

    /**
     * TICK 40 of a war of 8 STATIONS, 10 LINES (7 is CLOSED) and 5 UNITS: 0 and 2 roll, 1 is STOPPED, 3 is at PEACE
     * and has PATHS, 4 has no RAILHEAD. TRAINS stand (6), are on a BLOCK (5), unloaded (4) and DONE (0).
     */
    static final String[] BUSY = {"land 2 1", "station 1 1 3 1", "station 2 0 2 0", "line 5 6 3 0 2", "line 6 0 5 1 0",
        "railhead 0 4 12", "railhead 1 5 6", "unit 1 3 0 0", "unit 3 2 1 0", "unit 2 8 6 1", "unit 4 1 2 1",
        "unit 0 2 0 2", "plan 0 0", "plan 1 5", "plan 2 8", "plan 3 60", "supply 1 1", "supply 0 39", "supply 0 70",
        "order 23", "foe 0 0 1 9", "foe 1 1 2 60", "foe 2 2 3 1", "aim 1 0 1", "aim 2 2 0", "rumour 1", "pass 8",
        "stop 1", "pass 24", "bridge 7", "box 4 3", "box 5 20", "foul 0 40", "key", "pass 8"};

    static int busy(ThirteenthDay x) {
        for (String call : BUSY) {
            if (Calls.answer(x, Calls.name(call), Calls.arguments(call)).startsWith("throws.")) {
                throw new IllegalStateException("the war can not begin: " + call);
            }
        }
        return x.many(0);
    }
}
