/** Lands and wars that several tests begin with. */
final class Worlds {
    private Worlds() {
    }

    /** A chain of STATIONS without water with 9 ENGINES each, and of LINES from STATION 0 on. */
    static ThirteenthDay chain(int stations, int ramps, int sidings, int blocks, boolean isDouble, int grade) {
        ThirteenthDay x = new ThirteenthDay();
        for (int k = 0; k < stations; k++) {
            x.station(ramps, sidings, 9, false);
        }
        for (int k = 1; k < stations; k++) {
            x.line(k - 1, k, blocks, isDouble, grade);
        }
        return x;
    }

    /** One STATION that is all: HOME, and RAILHEAD of SECTORS 0 and 1 (MARCH 6); nobody needs a LINE. */
    static ThirteenthDay camp() {
        ThirteenthDay x = new ThirteenthDay();
        x.station(3, 5, 9, false);
        x.railhead(0, 0, 6);
        x.railhead(1, 0, 6);
        return x;
    }

    /** A UNIT at STATION 0 that is PLANNED from now on and ORDERED. */
    static int send(ThirteenthDay x, int kind, int loads, int sector) {
        int unit = x.unit(kind, loads, 0, sector);
        x.plan(unit, x.many(0));
        x.order(1 << unit);
        return unit;
    }

    static void passTo(ThirteenthDay x, int tick) {
        for (int k = 0; k < 30 && x.many(0) < tick; k++) {
            x.pass(Math.min(144, tick - x.many(0)));
        }
    }

    /**
     * TICK 40 of a war of 8 STATIONS, 10 LINES (7 is CLOSED) and 5 UNITS: 0 and 2 roll, 1 is STOPPED, 3 is at PEACE
     * and has PATHS, 4 has no RAILHEAD. TRAINS stand (6), are on a BLOCK (5), unloaded (4) and DONE (0).
     */
    static int busy(ThirteenthDay x) {
        x.land(2, 1);
        x.station(1, 1, 3, true);
        x.station(2, 0, 2, false);
        x.line(5, 6, 3, false, 2);
        x.line(6, 0, 5, true, 0);
        x.railhead(0, 4, 12);
        x.railhead(1, 5, 6);
        x.unit(1, 3, 0, 0);
        x.unit(3, 2, 1, 0);
        x.unit(2, 8, 6, 1);
        x.unit(4, 1, 2, 1);
        x.unit(0, 2, 0, 2);
        x.plan(0, 0);
        x.plan(1, 5);
        x.plan(2, 8);
        x.plan(3, 60);
        x.supply(1, 1);
        x.supply(0, 39);
        x.supply(0, 70);
        x.order(1 + 2 + 4 + 16);
        x.foe(0, 0, 1, 9);
        x.foe(1, 1, 2, 60);
        x.foe(2, 2, 3, 1);
        x.aim(1, 0, 1);
        x.aim(2, 2, 0);
        x.rumour(1);
        x.pass(8);
        x.stop(1);
        x.pass(24);
        x.bridge(7);
        x.box(4, 3);
        x.box(5, 20);
        x.foul(0, 40);
        x.key();
        x.pass(8);
        return x.many(0);
    }
}
