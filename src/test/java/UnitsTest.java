/** Promises 9 to 13: units, railheads, wires to order and to stop, depots. */
public final class UnitsTest {
    private static final Check check = new Check("UnitsTest");

    public static void main(String[] args) {
        units();
        railheads();
        orders();
        wiresTakeTheirTime();
        depots();
        stops();
        stopsThatComeTooLate();
        stopsAheadOfTheOrder();
        factsOfUnits();
        check.end();
    }

    private static ThirteenthDay onLand() {
        ThirteenthDay x = new ThirteenthDay();
        x.land(1, 0);
        return x;
    }

    private static void units() {
        ThirteenthDay x = onLand();
        check.noPlace("unit: home -1", x, () -> x.unit(0, 1, -1, 0));
        check.noPlace("unit: home 6", x, () -> x.unit(0, 1, 6, 0));
        check.noPlace("unit: sector -1", x, () -> x.unit(0, 1, 0, -1));
        check.noPlace("unit: sector 3, all wrong", x, () -> x.unit(5, 0, 0, 3));
        check.noWorth("unit: kind -1", x, () -> x.unit(-1, 1, 0, 0));
        check.noWorth("unit: kind 5", x, () -> x.unit(5, 1, 0, 0));
        check.noWorth("unit: loads 0", x, () -> x.unit(0, 0, 0, 0));
        check.noWorth("unit: loads 9", x, () -> x.unit(0, 9, 0, 0));
        for (int k = 0; k < 6; k++) {
            check.is("unit: number " + k, k, x.unit(k % 5, 8 - k, 5 - k, k % 3));
        }
        check.is("unit: how many", 6, x.many(4));
        check.noTime("unit: the seventh", x, () -> x.unit(0, 1, 0, 0));
        check.noWorth("unit: the seventh, and wrong", x, () -> x.unit(5, 1, 0, 0));
        int[] due = {4, 4, 1, 1, 0, -1, 0, 0, 0, 0, -1, 0, -1};
        for (int what = 0; what <= 12; what++) {
            check.is("unit 4: " + what, due[what], x.ofUnit(4, what));
        }
        for (int variant = 0; variant < 4; variant++) {
            check.is("unit 5: AIM as it was told", 2, x.aim(variant, 5, 2));
        }
    }

    private static void railheads() {
        ThirteenthDay x = onLand();
        check.noPlace("railhead: sector -1", x, () -> x.railhead(-1, 0, 24));
        check.noPlace("railhead: sector 3", x, () -> x.railhead(3, 0, 24));
        check.noPlace("railhead: station -1", x, () -> x.railhead(0, -1, 24));
        check.noPlace("railhead: station 6, march wrong", x, () -> x.railhead(0, 6, 5));
        check.noWorth("railhead: march 5", x, () -> x.railhead(0, 0, 5));
        check.noWorth("railhead: march 145", x, () -> x.railhead(0, 0, 145));
        check.is("railhead: the first", -1, x.railhead(0, 3, 6));
        check.is("railhead: another", 3, x.railhead(0, 4, 144));
        check.is("railhead: now", 4, x.ofSector(0, 0));
        check.is("railhead: MARCH now", 144, x.ofSector(0, 1));
        check.is("railhead: of another sector", -1, x.ofSector(1, 0));
        x.unit(1, 1, 0, 0);
        x.railhead(0, 3, 6);
        x.plan(0, 0);
        check.noTime("railhead: with a PATH", x, () -> x.railhead(0, 4, 24));
        check.noWorth("railhead: with a PATH, march wrong", x, () -> x.railhead(0, 4, 5));
        check.is("railhead: of a sector without PATHS", -1, x.railhead(1, 4, 24));
        x.order(1);
        x.pass(7);
        check.is("railhead: the TRAIN is on its way", 1, x.ofTrain(0, 2));
        check.noTime("railhead: with a TRAIN", x, () -> x.railhead(0, 4, 24));
        x.pass(5);
        check.is("railhead: the TRAIN is DONE", 3, x.ofTrain(0, 2));
        check.is("railhead: of a LOAD that MARCHES", 3, x.railhead(0, 4, 24));
        x.supply(0, 20);
        check.noTime("railhead: with a PATH of a SUPPLY", x, () -> x.railhead(0, 3, 24));
    }

    private static void orders() {
        ThirteenthDay none = new ThirteenthDay();
        check.noTime("order: without a STATION", none, () -> none.order(0));
        check.noWorth("order: without a STATION, and wrong", none, () -> none.order(1));
        ThirteenthDay x = onLand();
        check.is("order: nobody", 0, x.order(0));
        x.unit(0, 1, 0, 0);
        x.unit(1, 1, 1, 0);
        x.unit(2, 1, 3, 0);
        check.noWorth("order: -1", x, () -> x.order(-1));
        check.noWorth("order: the least", x, () -> x.order(Integer.MIN_VALUE));
        check.noWorth("order: a unit that there is not", x, () -> x.order(9));
        check.noWorth("order: a far bit", x, () -> x.order(1 << 30));
        check.is("order: two", 2, x.order(5));
        check.is("order: unit 1 is at PEACE", 0, x.ofUnit(1, 4));
        check.is("order: unit 2 is ORDERED", 1, x.ofUnit(2, 4));
        check.is("order: wires", 2, x.many(11));
        check.is("order: who is ORDERED is left out", 1, x.order(7));
        check.is("order: wires of all", 3, x.many(11));
        x.pass(3);
        check.is("order: none at PEACE", 0, x.order(7));
        check.is("order: no wires", 0, x.many(11));
    }

    private static void wiresTakeTheirTime() {
        ThirteenthDay x = onLand();
        x.station(1, 0, 1, false);
        int[] homes = {0, 1, 2, 6};
        int[] due = {1, 3, 6, 30};
        for (int k = 0; k < 4; k++) {
            x.unit(0, 1, homes[k], 0);
        }
        x.order(15);
        for (int tick = 1; tick <= 30; tick++) {
            x.pass(1);
            for (int k = 0; k < 4; k++) {
                check.is("wire to " + homes[k] + " at " + tick, tick >= due[k] ? due[k] : -1, x.ofUnit(k, 5));
                check.is("state of " + k + " at " + tick, tick >= due[k] ? 2 : 1, x.ofUnit(k, 4));
            }
        }
        ThirteenthDay y = onLand();
        y.unit(0, 1, 3, 0);
        y.bridge(5);
        y.order(1);
        y.bridge(5);
        y.pass(8);
        check.is("a wire goes by the way as it was sent", -1, y.ofUnit(0, 5));
        y.pass(1);
        check.is("a wire by three LINES", 9, y.ofUnit(0, 5));
    }

    private static void depots() {
        ThirteenthDay x = onLand();
        x.unit(2, 2, 0, 0);
        x.unit(1, 2, 0, 0);
        x.unit(4, 1, 0, 0);
        x.unit(3, 1, 1, 0);
        x.order(4);
        x.pass(1);
        x.order(11);
        int[][] ready = {{6, 0, 0, 1}, {14, 0, 0, 1}, {15, 1, 0, 1}, {23, 1, 0, 1}, {24, 2, 0, 1}, {29, 2, 0, 1},
            {30, 2, 1, 1}, {35, 2, 1, 1}, {36, 2, 2, 1}, {80, 2, 2, 1}};
        for (int[] row : ready) {
            x.pass(row[0] - x.many(0));
            check.is("READY at " + row[0] + ": 0", row[1], x.ofUnit(0, 6));
            check.is("READY at " + row[0] + ": 1", row[2], x.ofUnit(1, 6));
            check.is("READY at " + row[0] + ": 2", row[3], x.ofUnit(2, 6));
        }
        check.is("READY: another STATION", 1, x.ofUnit(3, 6));
        check.is("READY: nobody goes without PATHS", 0, x.many(5));
        ThirteenthDay y = onLand();
        int[] works = {6, 6, 9, 9, 6};
        for (int kind = 0; kind < 5; kind++) {
            y.unit(kind, 1, kind, 0);
        }
        y.order(31);
        for (int tick = 1; tick <= 30; tick++) {
            y.pass(1);
            for (int kind = 0; kind < 5; kind++) {
                int called = y.ofUnit(kind, 5);
                boolean isReady = called >= 0 && tick >= called + works[kind] - 1;
                check.is("KIND " + kind + " at " + tick, isReady ? 1 : 0, y.ofUnit(kind, 6));
            }
        }
    }

    private static void stops() {
        ThirteenthDay x = onLand();
        x.unit(1, 2, 0, 0);
        x.unit(1, 1, 0, 0);
        x.railhead(0, 3, 24);
        check.noPlace("stop: -1", x, () -> x.stop(-1));
        check.noPlace("stop: 2", x, () -> x.stop(2));
        check.noTime("stop: at PEACE", x, () -> x.stop(0));
        x.plan(0, 0);
        x.order(3);
        x.pass(7);
        check.is("stop: one has gone", 1, x.ofUnit(0, 7));
        check.is("stop: two PATHS", 2, x.ofUnit(0, 11));
        check.is("stop: with the next TICK", 8, x.stop(0));
        check.is("stop: a wire", 1, x.many(11));
        check.noTime("stop: a wire is on its way", x, () -> x.stop(0));
        check.is("stop: still CALLED", 2, x.ofUnit(0, 4));
        x.pass(1);
        check.is("stop: STOPPED", 3, x.ofUnit(0, 4));
        check.is("stop: CALLED stays", 1, x.ofUnit(0, 5));
        check.is("stop: no TICKS to stop", -1, x.ofUnit(0, 12));
        check.is("stop: the PATH of what has gone", 1, x.ofUnit(0, 11));
        check.is("stop: no wire", 0, x.many(11));
        check.noTime("stop: STOPPED", x, () -> x.stop(0));
        check.noTime("plan: STOPPED", x, () -> x.plan(0, 20));
        check.is("stop: the DEPOT begins with the next one", 0, x.ofUnit(1, 6));
        x.pass(5);
        check.is("stop: the next one takes 6 TICKS", 1, x.ofUnit(1, 6));
        x.pass(50);
        check.is("stop: READY no more", 1, x.ofUnit(0, 6));
        check.is("stop: what has gone comes there", 1, x.ofUnit(0, 9));
        check.is("order: STOPPED is left out", 0, x.order(1));
        check.is("order: STOPPED for ever", 3, x.ofUnit(0, 4));
    }

    private static void stopsThatComeTooLate() {
        ThirteenthDay x = onLand();
        x.unit(1, 8, 0, 0);
        x.unit(1, 8, 0, 0);
        x.order(3);
        x.pass(35);
        check.is("stop: 2 TICKS left", 2, x.ofUnit(0, 12));
        check.is("stop: there in time", 36, x.stop(0));
        x.pass(1);
        check.is("stop: 35 TICKS behind", 3, x.ofUnit(0, 4));
        check.is("stop: 1 TICK left", 1, x.ofUnit(1, 12));
        check.is("stop: too late", 37, x.stop(1));
        x.pass(1);
        check.is("stop: it rolls", 2, x.ofUnit(1, 4));
        check.is("stop: 0 TICKS left", 0, x.ofUnit(1, 12));
        check.is("stop: once more", 38, x.stop(1));
        x.pass(1);
        check.is("stop: it rolls for ever", 2, x.ofUnit(1, 4));
    }

    private static void stopsAheadOfTheOrder() {
        ThirteenthDay x = onLand();
        x.unit(1, 2, 2, 0);
        x.railhead(0, 2, 24);
        x.plan(0, 0);
        x.order(1);
        check.is("stop: while it is ORDERED", 6, x.stop(0));
        check.is("stop: two wires", 2, x.many(11));
        x.pass(6);
        check.is("stop: ORDER first, then STOP", 3, x.ofUnit(0, 4));
        check.is("stop: it was CALLED", 6, x.ofUnit(0, 5));
        check.is("stop: no PATHS", 0, x.many(7));
        ThirteenthDay y = onLand();
        y.unit(1, 2, 3, 0);
        y.bridge(5);
        y.order(1);
        y.bridge(5);
        check.is("stop: by a shorter way", 3, y.stop(0));
        y.pass(3);
        check.is("stop: not CALLED yet", 3, y.ofUnit(0, 4));
        check.is("stop: the other wire is on its way", 1, y.many(11));
        y.pass(6);
        check.is("stop: the other wire does nothing", 3, y.ofUnit(0, 4));
        check.is("stop: it never was CALLED", -1, y.ofUnit(0, 5));
        check.is("stop: no wires", 0, y.many(11));
    }

    private static void factsOfUnits() {
        ThirteenthDay x = onLand();
        x.unit(1, 2, 0, 1);
        x.railhead(1, 3, 6);
        check.noPlace("ofUnit: -1", x, () -> x.ofUnit(-1, 0));
        check.noPlace("ofUnit: 1, what wrong", x, () -> x.ofUnit(1, 13));
        check.noWorth("ofUnit: what -1", x, () -> x.ofUnit(0, -1));
        check.noWorth("ofUnit: what 13", x, () -> x.ofUnit(0, 13));
        check.is("ofUnit: START of the last", 2, x.plan(0, 0));
        check.is("ofUnit: its last PATH ARRIVES", 4, x.ofUnit(0, 10));
        check.is("ofUnit: PATHS", 2, x.ofUnit(0, 11));
        x.order(1);
        x.pass(1);
        check.is("ofUnit: TICKS to stop", 36, x.ofUnit(0, 12));
        x.pass(11);
        check.is("ofUnit: READY", 2, x.ofUnit(0, 6));
        check.is("ofUnit: gone", 2, x.ofUnit(0, 7));
        check.is("ofUnit: unloaded", 1, x.ofUnit(0, 8));
        check.is("ofUnit: at its SECTOR", 0, x.ofUnit(0, 9));
        check.is("ofUnit: PATHS of what is not DONE", 1, x.ofUnit(0, 11));
        x.pass(6);
        check.is("ofUnit: both unloaded", 2, x.ofUnit(0, 8));
        check.is("ofUnit: one at its SECTOR", 1, x.ofUnit(0, 9));
        check.is("ofUnit: no PATHS", -1, x.ofUnit(0, 10));
        x.pass(6);
        check.is("ofUnit: all at its SECTOR", 2, x.ofUnit(0, 9));
    }
}
