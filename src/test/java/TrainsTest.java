/** Promises 22 to 25: hot boxes, fouled stations, trains and what they wait for. */
public final class TrainsTest {
    private static final Check check = new Check("TrainsTest");

    public static void main(String[] args) {
        aTrainFromHomeToDone();
        hotBoxes();
        fouledStations();
        takenBlocks();
        fullStations();
        rampsThatAreTaken();
        noWay();
        singleLinesInOneDirection();
        doubleLinesInBoth();
        blocksFromTheFarEnd();
        theLatestMovesFirst();
        waterAndDryTrains();
        theWayOfEachMoment();
        engines();
        enginesAtOnce();
        loadsOneBehindTheOther();
        sixtyTrains();
        factsOfTrains();
        check.end();
    }

    /** A chain of STATIONS without water, 9 ENGINES each; SECTOR 0 has the last one, SECTOR 1 the first one. */
    private static ThirteenthDay chain(int stations, int ramps, int sidings, int blocks, boolean isDouble) {
        ThirteenthDay x = Worlds.chain(stations, ramps, sidings, blocks, isDouble, 0);
        x.railhead(0, stations - 1, 6);
        x.railhead(1, 0, 6);
        return x;
    }

    private static void isTrain(String what, ThirteenthDay x, int train, int... due) {
        for (int k = 0; k < due.length; k++) {
            check.is(what + ": ofTrain(" + train + ", " + k + ") at " + x.many(0), due[k], x.ofTrain(train, k));
        }
    }

    private static void aTrainFromHomeToDone() {
        ThirteenthDay x = chain(2, 3, 3, 2, false);
        x.unit(1, 1, 0, 0);
        x.plan(0, 0);
        x.order(1);
        x.pass(5);
        check.is("train: not READY yet", 0, x.many(5));
        x.pass(1);
        isTrain("it is READY, goes and MOVES in one TICK", x, 0, 0, 0, 1, 0, 0, 2, 0, 2, 1, 1);
        check.is("train: LATE", 2, x.many(10));
        x.pass(1);
        isTrain("LEFT", x, 0, 0, 0, 1, 0, 0, 1, 0, 3, 1, 1);
        x.pass(1);
        isTrain("the next BLOCK", x, 0, 0, 0, 1, 0, 1, 2, 0, 4, 2, 1);
        x.pass(2);
        isTrain("it stands", x, 0, 0, 0, 0, 1, -1, 0, 0, 6, 2, 1);
        check.is("train: it came through", 1, x.ofLine(0, 6));
        x.pass(1);
        isTrain("it is unloaded", x, 0, 0, 0, 2, 1, -1, 3, 0, 7, 2, 1);
        check.is("train: waits for nothing", 0, x.waits(0));
        x.pass(2);
        isTrain("it is unloaded still", x, 0, 0, 0, 2, 1, -1, 1, 0, 9, 2, 1);
        x.pass(1);
        isTrain("it is DONE", x, 0, 0, 0, 3, -1, -1, 0, 0, 0, 2, 1);
        check.is("train: waits for nothing, DONE", 0, x.waits(0));
        check.is("train: the greatest LATE is of those not DONE", 0, x.many(10));
        check.is("train: DONE", 1, x.many(6));
        x.unit(1, 1, 1, 1);
        x.plan(1, 14);
        x.order(2);
        x.pass(8);
        isTrain("from FAR to NEAR", x, 1, 1, 0, 1, 0, 1, 2, 0, 4, 1, 0);
        x.pass(2);
        isTrain("from FAR to NEAR, the next BLOCK", x, 1, 1, 0, 1, 0, 0, 2, 0, 6, 2, 0);
        x.pass(2);
        isTrain("from FAR to NEAR, it stands", x, 1, 1, 0, 0, 0, -1, 0, 0, 8, 2, 0);
    }

    private static void hotBoxes() {
        ThirteenthDay x = chain(2, 3, 3, 2, false);
        x.unit(1, 1, 0, 0);
        x.plan(0, 0);
        x.order(1);
        check.noPlace("box: none", x, () -> x.box(0, 1));
        check.noPlace("box: -1", x, () -> x.box(-1, 1));
        x.pass(7);
        check.noPlace("box: 1, ticks wrong", x, () -> x.box(1, 0));
        check.noWorth("box: ticks 0", x, () -> x.box(0, 0));
        check.noWorth("box: ticks 73", x, () -> x.box(0, 73));
        check.is("box: LATE now", 3, x.box(0, 3));
        check.is("box: more LEFT", 4, x.ofTrain(0, 5));
        check.is("box: it waits for nothing", 0, x.waits(0));
        x.pass(4);
        isTrain("a hot box on a BLOCK", x, 0, 0, 0, 1, 0, 1, 2, 0, 7, 2, 1);
        x.pass(2);
        check.is("box: one that stands", 9, x.box(0, 2));
        check.is("box: REST", 2, x.ofTrain(0, 6));
        check.is("box: waits for REST", 1, x.waits(0));
        check.is("box: again", 9, x.box(0, 1));
        x.pass(3);
        isTrain("after REST", x, 0, 0, 0, 0, 1, -1, 0, 0, 12, 2, 1);
        check.is("box: waits for nothing more", 0, x.waits(0));
        x.pass(1);
        check.is("box: unloaded now", 2, x.ofTrain(0, 2));
        check.noTime("box: unloaded", x, () -> x.box(0, 1));
        check.noWorth("box: unloaded, ticks wrong", x, () -> x.box(0, 73));
        x.pass(3);
        check.noTime("box: DONE", x, () -> x.box(0, 72));
        ThirteenthDay y = chain(2, 3, 3, 2, false);
        y.unit(1, 1, 0, 0);
        y.plan(0, 100);
        y.order(1);
        y.pass(100);
        check.is("box: not LATE", 0, y.box(0, 72));
        check.is("box: 72 more", 74, y.ofTrain(0, 5));
    }

    private static void fouledStations() {
        ThirteenthDay x = chain(2, 3, 3, 2, false);
        check.noPlace("foul: -1", x, () -> x.foul(-1, 0));
        check.noPlace("foul: 2, ticks wrong", x, () -> x.foul(2, 145));
        check.noWorth("foul: ticks -1", x, () -> x.foul(0, -1));
        check.noWorth("foul: ticks 145", x, () -> x.foul(0, 145));
        check.is("foul: the first", 0, x.foul(1, 144));
        check.is("foul: FOUL before", 144, x.foul(1, 0));
        check.is("foul: set, not added", 0, x.foul(0, 8));
        x.unit(1, 1, 0, 0);
        x.plan(0, 0);
        x.order(1);
        x.pass(6);
        check.is("foul: 6 less", 2, x.foul(0, 2));
        check.is("foul: it does not leave", 0, x.ofTrain(0, 2));
        check.is("foul: waits for it", 5, x.waits(0));
        x.pass(1);
        check.is("foul: still", 5, x.waits(0));
        x.pass(1);
        check.is("foul: with 0 it leaves", 1, x.ofTrain(0, 2));
        x.foul(1, 6);
        x.pass(3);
        check.is("foul: a BLOCK with LEFT of 1", 5, x.waits(0));
        x.pass(1);
        isTrain("before the FOULED STATION", x, 0, 0, 0, 1, 0, 1, 0, 0, 8, 2, 1);
        check.is("foul: a BLOCK with LEFT of 0", 5, x.waits(0));
        x.pass(1);
        check.is("foul: it does not come in", 1, x.ofTrain(0, 2));
        x.pass(1);
        check.is("foul: with 0 it comes in", 0, x.ofTrain(0, 2));
        x.foul(1, 10);
        check.is("foul: at its GOAL it is nothing", 0, x.waits(0));
        x.pass(1);
        check.is("foul: it is unloaded", 2, x.ofTrain(0, 2));
    }

    private static void takenBlocks() {
        ThirteenthDay x = chain(2, 3, 3, 3, false);
        x.unit(0, 3, 0, 0);
        x.plan(0, 0);
        x.order(1);
        x.pass(6);
        x.box(0, 10);
        x.pass(6);
        check.is("block: another one has gone", 2, x.many(5));
        check.is("block: the first BLOCK is taken", 2, x.waits(1));
        check.is("block: it stands", 0, x.ofTrain(1, 2));
        x.pass(6);
        isTrain("the first BLOCK is free", x, 1, 0, 1, 1, 0, 0, 2, 0, 10, 1, 1);
        check.is("block: the one ahead is in the next", 1, x.ofTrain(0, 4));
        x.box(0, 10);
        check.is("block: with more LEFT it waits for nothing", 0, x.waits(1));
        x.pass(1);
        check.is("block: with LEFT of 1 it does", 2, x.waits(1));
        x.pass(5);
        isTrain("behind a hot box", x, 1, 0, 1, 1, 0, 0, 0, 0, 16, 1, 1);
        check.is("block: of one that waits at HOME", 2, x.waits(2));
        check.is("block: sound", true, x.isSound());
    }

    private static void fullStations() {
        ThirteenthDay x = chain(2, 1, 0, 1, true);
        x.unit(3, 2, 0, 0);
        x.plan(0, 0);
        x.order(1);
        x.pass(9 + 2 + 7);
        check.is("full: one is unloaded", 1, x.ofStation(1, 5));
        check.is("full: another one is on its way", 1, x.ofTrain(1, 2));
        x.pass(1);
        check.is("full: waits for the STATION", 3, x.waits(1));
        x.pass(1);
        isTrain("the STATION is full", x, 1, 0, 1, 1, 0, 0, 0, 0, 9, 1, 1);
        check.is("full: waits still", 3, x.waits(1));
        x.pass(1);
        check.is("full: DONE", 3, x.ofTrain(0, 2));
        isTrain("of one TICK the later one comes in", x, 1, 0, 1, 0, 1, -1, 0, 0, 10, 1, 1);
        x.foul(1, 2);
        check.is("full: of its GOAL it waits for nothing", 0, x.waits(1));
    }

    private static void rampsThatAreTaken() {
        ThirteenthDay x = chain(2, 1, 1, 1, true);
        x.unit(3, 2, 0, 0);
        x.plan(0, 0);
        x.order(1);
        x.pass(20);
        isTrain("no RAMP", x, 1, 0, 1, 0, 1, -1, 0, 0, 9, 1, 1);
        check.is("ramp: waits for a RAMP", 4, x.waits(1));
        x.foul(1, 1);
        check.is("ramp: a RAMP alone", 4, x.waits(1));
        x.box(1, 1);
        check.is("ramp: REST first", 1, x.waits(1));
        x.pass(1);
        check.is("ramp: free as the one ahead is DONE", 0, x.waits(1));
        check.is("ramp: it stands", 0, x.ofTrain(1, 2));
        x.pass(1);
        isTrain("a RAMP", x, 1, 0, 1, 2, 1, -1, 9, 0, 11, 1, 1);
    }

    private static void noWay() {
        ThirteenthDay x = chain(2, 3, 3, 1, true);
        x.unit(1, 1, 0, 0);
        x.plan(0, 0);
        x.order(1);
        x.bridge(0);
        x.pass(6);
        check.is("way: it stands", 0, x.ofTrain(0, 2));
        check.is("way: waits for a way", 6, x.waits(0));
        x.foul(0, 5);
        check.is("way: FOULED comes first", 5, x.waits(0));
        x.box(0, 3);
        check.is("way: REST comes first of all", 1, x.waits(0));
        x.bridge(0);
        x.pass(4);
        check.is("way: the bridge is mended, FOUL stays", 5, x.waits(0));
        x.pass(1);
        check.is("way: it leaves", 1, x.ofTrain(0, 2));
    }

    private static ThirteenthDay twoDirections(boolean isDouble) {
        ThirteenthDay x = chain(2, 3, 3, 5, isDouble);
        x.unit(0, 1, 0, 0);
        x.unit(0, 1, 1, 1);
        x.plan(0, 0);
        x.plan(1, 0);
        x.order(1);
        x.pass(6);
        x.order(2);
        x.pass(9);
        return x;
    }

    private static void singleLinesInOneDirection() {
        ThirteenthDay x = twoDirections(false);
        check.is("single: one is on the LINE", 4, x.ofTrain(0, 4));
        check.is("single: the other one stands, it is not READY before 14", 0, x.ofTrain(1, 2));
        check.is("single: the LINE is not free", 2, x.waits(1));
        x.pass(1);
        check.is("single: one comes in", 0, x.ofTrain(0, 2));
        check.is("single: then the other one goes", 1, x.ofTrain(1, 2));
        check.is("single: sound", true, x.isSound());
    }

    private static void doubleLinesInBoth() {
        ThirteenthDay x = twoDirections(true);
        check.is("double: both are on the LINE", 2, x.ofLine(0, 5));
        check.is("double: in one BLOCK", x.ofTrain(0, 4), x.ofTrain(1, 4));
        check.is("double: sound", true, x.isSound());
    }

    private static void blocksFromTheFarEnd() {
        ThirteenthDay x = chain(2, 1, 1, 2, true);
        x.unit(0, 2, 1, 1);
        x.plan(0, 0);
        x.order(1);
        x.pass(8);
        isTrain("CALLED at 3, READY at 8", x, 0, 0, 0, 1, 0, 1, 2, 0, 4, 1, 0);
        x.box(0, 10);
        x.pass(6);
        check.is("far end: the last BLOCK is taken for the next one", 2, x.waits(1));
        x.pass(6);
        check.is("far end: it is in the next BLOCK", 0, x.ofTrain(0, 4));
        check.is("far end: the other one is behind it", 1, x.ofTrain(1, 4));
        x.box(0, 2);
        x.pass(2);
        check.is("far end: the next BLOCK is taken", 2, x.waits(1));
        x.pass(2);
        check.is("far end: behind BLOCK 0 is NEAR", 0, x.ofTrain(0, 3));
        check.is("far end: it stands", 0, x.ofTrain(0, 2));
        check.is("far end: the other one follows", 0, x.ofTrain(1, 4));
    }

    private static void theLatestMovesFirst() {
        ThirteenthDay x = chain(2, 3, 3, 2, true);
        x.unit(0, 1, 0, 0);
        x.unit(0, 1, 0, 0);
        x.plan(1, 0);
        x.plan(0, 6);
        x.order(3);
        x.foul(0, 20);
        x.pass(19);
        check.is("late: of 0", 9, x.ofTrain(0, 7));
        check.is("late: of 1", 15, x.ofTrain(1, 7));
        check.is("late: the greatest", 15, x.many(10));
        x.pass(1);
        check.is("late: the latest goes first", 1, x.ofTrain(1, 2));
        check.is("late: the other one stands", 0, x.ofTrain(0, 2));
        check.is("late: for its BLOCK", 2, x.waits(0));
        ThirteenthDay y = chain(2, 3, 3, 2, true);
        y.unit(0, 1, 0, 0);
        y.unit(0, 1, 0, 0);
        y.plan(0, 40);
        y.plan(1, 40);
        y.order(3);
        y.foul(0, 42);
        y.pass(42);
        check.is("late: both 0", 0, y.many(10));
        check.is("late: the smallest number goes first", 1, y.ofTrain(0, 2));
        check.is("late: the greater one stands", 0, y.ofTrain(1, 2));
    }

    private static void waterAndDryTrains() {
        ThirteenthDay x = chain(4, 3, 3, 5, true);
        x.unit(0, 1, 0, 0);
        x.plan(0, 0);
        x.order(1);
        x.pass(30);
        isTrain("12 BLOCKS are the last at PACE", x, 0, 0, 0, 1, 2, 1, 2, 0, 0, 12, 3);
        x.pass(2);
        isTrain("the 13th takes twice", x, 0, 0, 0, 1, 2, 2, 4, 0, 0, 13, 3);
        x.pass(8);
        isTrain("the 15th too", x, 0, 0, 0, 1, 2, 4, 4, 0, 8, 15, 3);
        x.pass(4);
        check.is("dry: it stands", 0, x.ofTrain(0, 2));
        ThirteenthDay y = new ThirteenthDay();
        y.station(1, 1, 1, true);
        y.station(1, 1, 1, true);
        y.station(1, 1, 1, true);
        y.line(0, 1, 3, true, 0);
        y.line(1, 2, 1, true, 0);
        y.railhead(0, 2, 6);
        y.unit(0, 1, 0, 0);
        y.plan(0, 0);
        y.order(1);
        y.pass(12);
        isTrain("3 BLOCKS: no water", y, 0, 0, 0, 0, 1, -1, 0, 0, 3, 3, 2);
        y.pass(3);
        isTrain("4 BLOCKS: water, at its GOAL too", y, 0, 0, 0, 0, 2, -1, 0, 2, 6, 0, 2);
        check.is("water: REST", 1, y.waits(0));
        y.pass(2);
        isTrain("REST is over", y, 0, 0, 0, 0, 2, -1, 0, 0, 8, 0, 2);
        y.pass(1);
        check.is("water: unloaded behind REST", 2, y.ofTrain(0, 2));
    }

    private static void theWayOfEachMoment() {
        ThirteenthDay x = new ThirteenthDay();
        x.land(1, 0);
        x.railhead(0, 4, 6);
        x.unit(0, 1, 0, 0);
        x.plan(0, 0);
        check.is("moment: the PATH by 0 1 4", 2, x.path(0, 0, 2));
        x.order(1);
        x.pass(7);
        check.is("moment: TIME by both ways", 6, x.way(0, 4, 0));
        check.is("moment: it is on LINE", 0, x.ofTrain(0, 3));
        x.bridge(6);
        x.pass(3);
        check.is("moment: it stands at 1", 1, x.ofTrain(0, 3));
        x.pass(1);
        check.is("moment: another way", 0, x.ofTrain(0, 3));
        check.is("moment: back", 1, x.ofTrain(0, 4));
        check.is("moment: the PATH stays", 2, x.path(0, 0, 2));
    }

    private static void engines() {
        ThirteenthDay x = new ThirteenthDay();
        x.station(3, 3, 1, false);
        x.station(3, 3, 0, false);
        x.line(0, 1, 2, false, 0);
        x.railhead(0, 1, 6);
        x.unit(1, 2, 0, 0);
        x.plan(0, 0);
        x.order(1);
        x.pass(6);
        check.is("engine: gone", 0, x.ofStation(0, 2));
        x.pass(8);
        check.is("engine: DONE", 1, x.many(6));
        check.is("engine: the second LOAD is READY", 2, x.ofUnit(0, 6));
        x.pass(7);
        check.is("engine: on its way back", 0, x.ofStation(0, 2));
        check.is("engine: nobody goes without one", 1, x.many(5));
        x.pass(1);
        check.is("engine: 2 * TIME later it is back, and goes at once", 2, x.many(5));
        check.is("engine: gone again", 0, x.ofStation(0, 2));
        x.pass(16);
        check.is("engine: there for good", 1, x.ofStation(0, 2));
        check.is("engine: not where it unloaded", 0, x.ofStation(1, 2));
    }

    private static void enginesAtOnce() {
        ThirteenthDay x = chain(1, 1, 0, 1, false);
        x.unit(0, 2, 0, 0);
        x.plan(0, 0);
        x.order(1);
        x.pass(6);
        isTrain("HOME is its GOAL", x, 0, 0, 0, 2, 0, -1, 2, 0, 6, 0, 0);
        check.is("engine: it has gone", 8, x.ofStation(0, 2));
        x.pass(2);
        check.is("engine: at once, if TIME is 0", 9, x.ofStation(0, 2));
        ThirteenthDay y = chain(2, 1, 0, 1, false);
        y.unit(0, 1, 0, 0);
        y.plan(0, 0);
        y.order(1);
        y.pass(9);
        y.bridge(0);
        y.pass(1);
        check.is("engine: not DONE yet", 8, y.ofStation(0, 2));
        y.pass(1);
        check.is("engine: at once, without a way", 9, y.ofStation(0, 2));
    }

    private static void loadsOneBehindTheOther() {
        ThirteenthDay x = chain(2, 3, 3, 1, true);
        x.unit(0, 4, 0, 0);
        x.plan(0, 30);
        x.order(1);
        x.pass(29);
        check.is("loads: READY, but ahead of START", 4, x.ofUnit(0, 6));
        check.is("loads: none has gone", 0, x.many(5));
        x.pass(1);
        check.is("loads: at START", 1, x.many(5));
        x.pass(1);
        check.is("loads: the next one not yet", 1, x.many(5));
        x.pass(1);
        check.is("loads: the next one", 2, x.many(5));
        ThirteenthDay y = new ThirteenthDay();
        y.station(3, 5, 0, false);
        y.station(3, 5, 1, false);
        y.line(1, 0, 1, true, 0);
        y.railhead(0, 0, 6);
        y.unit(0, 2, 1, 0);
        y.unit(0, 2, 0, 0);
        y.plan(0, 0);
        y.plan(1, 0);
        y.order(3);
        y.pass(30);
        check.is("loads: no ENGINE at this HOME", 0, y.ofUnit(1, 7));
        check.is("loads: others go", 2, y.ofUnit(0, 7));
        ThirteenthDay z = chain(2, 3, 3, 1, true);
        z.unit(0, 3, 0, 0);
        z.order(1);
        z.pass(19);
        z.plan(0, 19);
        z.drop(0);
        z.foul(0, 10);
        z.plan(0, 19);
        z.pass(5);
        check.is("loads: as many as START tells", 3, z.many(5));
        check.is("loads: all stand at HOME", 3, z.ofStation(0, 4));
    }

    private static void sixtyTrains() {
        ThirteenthDay x = chain(1, 3, 5, 1, false);
        for (int unit = 0; unit < 6; unit++) {
            x.unit(0, 8, 0, 0);
            x.plan(unit, 0);
        }
        x.order(63);
        x.pass(144);
        x.pass(144);
        x.pass(12);
        check.is("sixty: all LOADS", 48, x.many(5));
        for (int k = 0; k < 2; k++) {
            for (int supply = 0; supply < 6; supply++) {
                check.is("sixty: a SUPPLY", true, x.supply(0, x.many(0)) >= 0);
            }
            x.pass(40);
            check.is("sixty: all are DONE", 0, x.many(8));
        }
        check.is("sixty: trains", 60, x.many(5));
        check.is("sixty: all DONE", 60, x.many(6));
        check.is("sixty: one more is sent", 380, x.supply(0, x.many(0)));
        x.pass(60);
        check.is("sixty: but does not go", 60, x.many(5));
        check.is("sixty: it is not DONE", 1, x.many(8));
        check.is("sixty: its PATH is kept", 1, x.many(7));
        check.noPlace("sixty: the 61st", x, () -> x.ofTrain(60, 0));
    }

    private static void factsOfTrains() {
        ThirteenthDay x = chain(2, 3, 3, 1, true);
        x.supply(0, 0);
        check.noPlace("ofTrain: none", x, () -> x.ofTrain(0, 0));
        check.noPlace("waits: none", x, () -> x.waits(0));
        x.pass(1);
        check.noPlace("ofTrain: -1", x, () -> x.ofTrain(-1, 0));
        check.noPlace("ofTrain: 1, what wrong", x, () -> x.ofTrain(1, 10));
        check.noWorth("ofTrain: what -1", x, () -> x.ofTrain(0, -1));
        check.noWorth("ofTrain: what 10", x, () -> x.ofTrain(0, 10));
        check.noPlace("waits: -1", x, () -> x.waits(-1));
        check.noPlace("waits: 1", x, () -> x.waits(1));
        isTrain("a SUPPLY has no UNIT, but a SECTOR", x, 0, -1, 0, 1, 0, 0, 2, 0, 0, 1, 1);
    }
}
