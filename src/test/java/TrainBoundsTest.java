/** Section 4: what bounds TRAINS, and what they do where there is no ENGINE, room, RAMP, water or way. */
public final class TrainBoundsTest {
    private static final Check check = new Check("TrainBoundsTest");
    private static final int NONE = -1;

    public static void main(String[] args) {
        atItsStart();
        asItIsReady();
        lateFromTheTickBehindArrives();
        theGreatestLateFirst();
        withoutAnEngine();
        whoHasTheLastEngine();
        severalAtOneTick();
        enginesOfEachHome();
        theWayOfEachMoment();
        theSixtiethIsALoad();
        theSixtiethIsASupply();
        asManyAsRampsAndSidings();
        whoseHomeItIsHasRoomToo();
        atHomeThereIsAlwaysRoom();
        asManyAsThereAreRamps();
        fouledToTheLastTick();
        aStationThatIsFouledAndFull();
        leftOfOneOrLess();
        fromFarToNear();
        boxesAtTheirBounds();
        dryAtTwelve();
        waterAtFour();
        waterEndsDryness();
        noWater();
        enginesComeBack();
        theWayOfTheMomentItIsDone();
        enginesThatAreBackAtOnce();
        comingThrough();
        factsOfOneThatIsDone();
        check.end();
    }

    private static void isTrain(String what, ThirteenthDay x, int train, int... due) {
        for (int k = 0; k < due.length; k++) {
            check.is(what + ": ofTrain(" + train + ", " + k + ") at " + x.many(0), due[k], x.ofTrain(train, k));
        }
    }

    /** A LOAD that is READY long ago goes as its START is TICK, not a TICK earlier. */
    private static void atItsStart() {
        ThirteenthDay x = Worlds.chain(2, 3, 5, 1, true, 0);
        x.railhead(0, 1, 6);
        x.unit(0, 1, 0, 0);
        x.plan(0, 50);
        x.order(1);
        x.pass(49);
        check.is("start: READY", 1, x.ofUnit(0, 6));
        check.is("start: none has gone", 0, x.many(5));
        check.is("start: ENGINES", 9, x.ofStation(0, 2));
        x.pass(1);
        check.is("start: it has gone", 1, x.many(5));
        check.is("start: ENGINES are 1 less", 8, x.ofStation(0, 2));
        isTrain("start: on its BLOCK at once", x, 0, 0, 0, 1, 0, 0, 2, 0, 0, 1, 1);
    }

    /** A LOAD whose START is gone by goes as it is READY, not a TICK earlier. */
    private static void asItIsReady() {
        ThirteenthDay x = Worlds.chain(2, 3, 5, 1, true, 0);
        x.railhead(0, 1, 6);
        x.unit(3, 1, 0, 0);
        x.plan(0, 0);
        x.order(1);
        x.pass(8);
        check.is("ready: not yet", 0, x.ofUnit(0, 6));
        check.is("ready: none has gone", 0, x.many(5));
        x.pass(1);
        check.is("ready: now", 1, x.ofUnit(0, 6));
        check.is("ready: it has gone", 1, x.ofUnit(0, 7));
        ThirteenthDay y = Worlds.chain(2, 3, 5, 1, true, 0);
        y.railhead(0, 1, 6);
        y.unit(0, 1, 0, 0);
        y.order(1);
        y.pass(30);
        check.is("ready: without a PATH it does not go", 0, y.many(5));
        y.plan(0, 30);
        check.is("ready: a PATH from TICK on, but LOADS went ahead of it", 0, y.many(5));
        y.pass(1);
        check.is("ready: with the next TICK", 1, y.many(5));
        check.is("ready: not LATE yet", 0, y.ofTrain(0, 7));
    }

    /** LATE: TICK less the TICK at which its PATH ARRIVES, 0 at least. */
    private static void lateFromTheTickBehindArrives() {
        ThirteenthDay x = Worlds.chain(2, 3, 5, 1, true, 0);
        x.railhead(0, 1, 6);
        x.unit(3, 1, 0, 0);
        x.plan(0, 20);
        x.order(1);
        x.pass(21);
        check.is("late: ahead of ARRIVES", 0, x.ofTrain(0, 7));
        x.pass(1);
        check.is("late: at ARRIVES", 0, x.ofTrain(0, 7));
        check.is("late: as it stands", 0, x.box(0, 5));
        x.pass(1);
        check.is("late: a TICK behind", 1, x.ofTrain(0, 7));
        check.is("late: the greatest", 1, x.many(10));
        check.is("late: told by a hot box", 1, x.box(0, 1));
        x.pass(14);
        check.is("late: while it is unloaded", 15, x.ofTrain(0, 7));
        check.is("late: it is unloaded", 2, x.ofTrain(0, 2));
        x.pass(1);
        check.is("late: DONE", 3, x.ofTrain(0, 2));
        check.is("late: 0, if DONE", 0, x.ofTrain(0, 7));
        check.is("late: the greatest of none", 0, x.many(10));
    }

    /** The one with the greatest LATE first: four TRAINS in every order of their STARTS leave HOME as that tells. */
    private static void theGreatestLateFirst() {
        for (int order = 0; order < 24; order++) {
            int[] place = {order / 6, order / 2 % 3, order % 2, 0};
            int[] unitAt = new int[4];
            boolean[] isTaken = new boolean[4];
            for (int k = 0; k < 4; k++) {
                int unit = 0;
                for (int skip = place[k]; isTaken[unit] || skip > 0; unit++) {
                    skip -= isTaken[unit] ? 0 : 1;
                }
                isTaken[unit] = true;
                unitAt[k] = unit;
            }
            ThirteenthDay x = Worlds.chain(2, 3, 5, 1, true, 0);
            x.railhead(0, 1, 6);
            for (int unit = 0; unit < 4; unit++) {
                x.unit(0, 1, 0, 0);
            }
            for (int k = 0; k < 4; k++) {
                check.is("greatest: START", 2 * k, x.plan(unitAt[k], 2 * k));
            }
            x.foul(0, 60);
            x.order(15);
            x.pass(58);
            check.is("greatest: all stand at HOME", 4, x.ofStation(0, 4));
            for (int k = 0; k < 4; k++) {
                x.pass(2);
                for (int other = 0; other < 4; other++) {
                    int how = x.ofTrain(unitAt[other], 2);
                    check.is("greatest: who has left at " + x.many(0), other <= k, how != 0 || other < k);
                }
                check.is("greatest: UNITS went as they are numbered", unitAt[k], x.ofTrain(unitAt[k], 0));
                check.is("greatest: who leaves", "on 0.0", x.tell(unitAt[k]).substring(12));
            }
        }
    }

    /** Without an ENGINE at HOME a LOAD does not go, and has its PATH still. */
    private static void withoutAnEngine() {
        ThirteenthDay x = new ThirteenthDay();
        x.station(3, 5, 0, false);
        x.station(3, 5, 9, false);
        x.line(0, 1, 1, true, 0);
        x.railhead(0, 1, 6);
        x.unit(0, 1, 0, 0);
        x.plan(0, 0);
        x.supply(0, 5);
        x.order(1);
        Worlds.passTo(x, 200);
        check.is("no ENGINE: READY", 1, x.ofUnit(0, 6));
        check.is("no ENGINE: none has gone", 0, x.many(5));
        check.is("no ENGINE: PATHS are kept", 2, x.many(7));
        check.is("no ENGINE: the SUPPLY is not DONE", 1, x.many(8));
        check.is("no ENGINE: none is LATE", 0, x.many(10));
    }

    /** All want to go at TICK 40: UNIT by UNIT, then SUPPLIES in the order in which they were sent. */
    private static void whoHasTheLastEngine() {
        for (int engines = 0; engines <= 5; engines++) {
            ThirteenthDay x = new ThirteenthDay();
            x.station(3, 5, engines, false);
            x.station(3, 5, 0, false);
            x.line(0, 1, 5, true, 2);
            x.railhead(0, 1, 6);
            x.railhead(1, 0, 6);
            x.railhead(2, 0, 6);
            check.is("engine: START of the first SUPPLY", 40, x.supply(2, 40));
            check.is("engine: START of the second SUPPLY", 40, x.supply(1, 40));
            x.unit(0, 1, 0, 0);
            x.unit(0, 1, 0, 1);
            check.is("engine: START of UNIT 1", 40, x.plan(1, 40));
            check.is("engine: START of UNIT 0", 40, x.plan(0, 40));
            x.order(2);
            x.pass(10);
            x.order(1);
            x.pass(29);
            check.is("engine: none has gone", 0, x.many(5));
            x.pass(1);
            String[] due = {"0 staff 0/0 on 0.0", "1 staff 1/0 unloads at 0", "2 supply 2 unloads at 0",
                "3 supply 1 unloads at 0"};
            int gone = Math.min(4, engines);
            check.is("engine: as many as there are", gone, x.many(5));
            for (int k = 0; k < gone; k++) {
                check.is("engine: who", due[k], x.tell(k));
            }
            check.is("engine: what is left", engines - gone, x.ofStation(0, 2));
        }
    }

    /** LOADS that go: of one UNIT more than one, if all is so. */
    private static void severalAtOneTick() {
        ThirteenthDay x = new ThirteenthDay();
        x.station(3, 5, 5, false);
        x.railhead(0, 0, 6);
        x.unit(0, 8, 0, 0);
        x.order(1);
        x.pass(60);
        check.is("several: all READY", 8, x.ofUnit(0, 6));
        x.plan(0, 60);
        x.pass(1);
        check.is("several: START 60 and 61", 2, x.many(5));
        x.drop(0);
        x.pass(20);
        check.is("several: no PATHS", 2, x.many(5));
        x.plan(0, 81);
        x.foul(0, 0);
        x.pass(1);
        check.is("several: START 81 and 82", 4, x.many(5));
        x.pass(1);
        check.is("several: START 83", 5, x.many(5));
    }

    /** Of the STATION that is its HOME: one at STATION 0 is of no use elsewhere, and comes back to nobody else. */
    private static void enginesOfEachHome() {
        ThirteenthDay x = new ThirteenthDay();
        for (int k = 0; k < 3; k++) {
            x.station(3, 5, k == 2 ? 0 : 1, false);
        }
        x.line(0, 1, 1, true, 0);
        x.line(1, 2, 1, true, 0);
        x.railhead(0, 0, 6);
        x.unit(0, 2, 1, 0);
        x.unit(0, 1, 2, 0);
        check.is("each HOME: START", 22, x.plan(0, 20));
        check.is("each HOME: START of the other UNIT", 30, x.plan(1, 30));
        x.order(3);
        int[] ticks = {19, 20, 28, 29, 37, 38, 100};
        int[] engines = {1, 0, 0, 0, 0, 1, 1};
        int[] gone = {0, 1, 1, 2, 2, 2, 2};
        for (int k = 0; k < ticks.length; k++) {
            Worlds.passTo(x, ticks[k]);
            check.is("each HOME: ENGINES at 1 at " + ticks[k], engines[k], x.ofStation(1, 2));
            check.is("each HOME: ENGINES at 0 at " + ticks[k], 1, x.ofStation(0, 2));
            check.is("each HOME: ENGINES at 2 at " + ticks[k], 0, x.ofStation(2, 2));
            check.is("each HOME: gone at " + ticks[k], gone[k], x.ofUnit(0, 7));
            check.is("each HOME: without an ENGINE at " + ticks[k], 0, x.ofUnit(1, 7));
        }
        check.is("each HOME: LOADS of both are READY", 1, x.ofUnit(1, 6));
    }

    /** By the way of each moment from where it stands, though it be back; without one it stands there. */
    private static void theWayOfEachMoment() {
        ThirteenthDay x = Worlds.chain(4, 3, 5, 1, true, 0);
        x.line(1, 3, 1, true, 0);
        x.railhead(0, 2, 6);
        x.unit(0, 1, 0, 0);
        check.is("moment: START", 20, x.plan(0, 20));
        check.is("moment: by LINES 0 and 1", 25, x.path(0, 0, 1));
        x.order(1);
        x.pass(22);
        check.is("moment: it stands at 1", "0 staff 0/0 at 1", x.tell(0));
        x.bridge(1);
        check.is("moment: there is another way", 0, x.waits(0));
        x.bridge(3);
        check.is("moment: no way", 6, x.waits(0));
        x.pass(8);
        check.is("moment: still no way", 6, x.waits(0));
        check.is("moment: it stands still", "0 staff 0/0 at 1", x.tell(0));
        x.bridge(3);
        check.is("moment: it may go", 0, x.waits(0));
        x.pass(1);
        check.is("moment: by LINE 3", "0 staff 0/0 on 3.0", x.tell(0));
        x.pass(2);
        check.is("moment: it stands at 3", "0 staff 0/0 at 3", x.tell(0));
        x.bridge(1);
        x.bridge(2);
        x.pass(1);
        check.is("moment: back by LINE 3", "0 staff 0/0 on 3.0", x.tell(0));
        x.pass(2);
        check.is("moment: again at 1", "0 staff 0/0 at 1", x.tell(0));
        check.is("moment: twice over LINE 3", 2, x.ofLine(3, 6));
        x.pass(1);
        check.is("moment: by LINE 1", "0 staff 0/0 on 1.0", x.tell(0));
        x.pass(3);
        check.is("moment: unloaded at its GOAL", "0 staff 0/0 unloads at 2", x.tell(0));
        check.is("moment: LATE", 15, x.ofTrain(0, 7));
    }

    /** TRAINS: 60 at most; no more go then. */
    private static ThirteenthDay withSupplies(int supplies) {
        ThirteenthDay x = new ThirteenthDay();
        x.station(3, 5, 9, false);
        x.railhead(0, 0, 6);
        x.railhead(1, 0, 6);
        for (int k = 0; k < supplies; k++) {
            x.supply(0, x.many(0));
            if (k % 6 == 5) {
                x.pass(20);
            }
        }
        x.pass(20);
        check.is("sixty: SUPPLIES", supplies, x.many(6));
        for (int unit = 0; unit < 6; unit++) {
            x.unit(0, 8, 0, 1);
            x.plan(unit, x.many(0));
        }
        x.order(63);
        Worlds.passTo(x, 430);
        return x;
    }

    private static void theSixtiethIsALoad() {
        ThirteenthDay x = withSupplies(13);
        check.is("sixty: TRAINS", 60, x.many(5));
        check.is("sixty: the last one", "59 staff 5/6 done", x.tell(59));
        check.is("sixty: its LOAD is unloaded", 7, x.ofUnit(5, 8));
        check.is("sixty: all LOADS are READY", 8, x.ofUnit(5, 6));
        check.is("sixty: one has not gone", 7, x.ofUnit(5, 7));
        check.is("sixty: its PATH is kept", 1, x.many(7));
        check.is("sixty: ENGINES are there", 9, x.ofStation(0, 2));
        check.noPlace("sixty: the 61st", x, () -> x.ofTrain(60, 0));
        Worlds.passTo(x, 1000);
        check.is("sixty: never", 60, x.many(5));
        check.is("sixty: sound", true, x.isSound());
    }

    private static void theSixtiethIsASupply() {
        ThirteenthDay x = withSupplies(11);
        check.is("sixty: 59 TRAINS", 59, x.many(5));
        check.is("sixty: all DONE", 59, x.many(6));
        x.supply(1, 440);
        x.supply(0, 440);
        x.pass(10);
        check.is("sixty: one of two goes", 60, x.many(5));
        check.is("sixty: the one that was sent first", "59 supply 1 unloads at 0", x.tell(59));
        x.pass(100);
        check.is("sixty: the other one does not", 60, x.many(5));
        check.is("sixty: it is not DONE", 1, x.many(8));
        check.is("sixty: all TRAINS are", 60, x.many(6));
    }

    /** Less than RAMPS + SIDINGS TRAINS are there, standing: TRAIN 0 keeps LINE 1, the others stand at 1. */
    private static void asManyAsRampsAndSidings() {
        for (int ramps = 1; ramps <= 3; ramps++) {
            for (int sidings = 0; ramps + sidings <= 6 && sidings <= 5; sidings++) {
                ThirteenthDay x = new ThirteenthDay();
                x.station(1, 0, 9, false);
                x.station(ramps, sidings, 0, false);
                x.station(3, 5, 0, false);
                x.line(0, 1, 1, true, 0);
                x.line(1, 2, 1, true, 0);
                x.railhead(0, 2, 6);
                Worlds.send(x, 0, 8, 0);
                x.pass(9);
                x.box(0, 72);
                int room = ramps + sidings;
                int last = room + 1;
                x.pass(6 * last - 2);
                check.is("room: all but one", room, x.ofStation(1, 4));
                check.is("room: LEFT of 1", 1, x.ofTrain(last, 5));
                check.is("room: waits", 3, x.waits(last));
                x.pass(1);
                check.is("room: no more come in", room, x.ofStation(1, 4));
                isTrain("room: full", x, last, 0, last, 1, 0, 0, 0, 0);
                check.is("room: who stands there waits for the BLOCK", 2, x.waits(1));
                check.is("room: sound", true, x.isSound());
            }
        }
    }

    /** A TRAIN that stands at its HOME takes room from those that would come in. */
    private static void whoseHomeItIsHasRoomToo() {
        ThirteenthDay x = new ThirteenthDay();
        x.station(1, 0, 9, false);
        x.station(1, 0, 9, false);
        x.station(3, 5, 9, false);
        x.line(0, 1, 1, true, 0);
        x.line(1, 2, 1, true, 0);
        x.railhead(0, 1, 6);
        x.railhead(1, 2, 6);
        x.unit(0, 1, 0, 0);
        x.unit(0, 1, 1, 1);
        x.plan(0, 30);
        x.plan(1, 30);
        x.order(3);
        x.foul(1, 31);
        x.pass(30);
        check.is("home: it stands at HOME", "1 staff 1/0 at 1", x.tell(1));
        x.box(1, 10);
        x.pass(1);
        check.is("home: waits for room", 3, x.waits(0));
        x.pass(9);
        check.is("home: on its BLOCK with LEFT of 0", 0, x.ofTrain(0, 5));
        check.is("home: REST is over", 0, x.ofTrain(1, 6));
        check.is("home: the other one still waits for room", 3, x.waits(0));
        x.pass(1);
        check.is("home: TRAIN 0 is the later one, and MOVES first", 1, x.ofTrain(0, 2));
        check.is("home: TRAIN 1 leaves", 1, x.ofTrain(1, 2));
        x.pass(1);
        check.is("home: there is room", "0 staff 0/0 at 1", x.tell(0));
    }

    /** TRAINS stand at HOME, however many; isSound() leaves them out. */
    private static void atHomeThereIsAlwaysRoom() {
        ThirteenthDay x = new ThirteenthDay();
        x.station(1, 0, 9, false);
        x.station(3, 5, 0, false);
        x.line(0, 1, 1, true, 0);
        x.railhead(0, 1, 6);
        x.foul(0, 100);
        Worlds.send(x, 0, 8, 0);
        x.pass(60);
        check.is("at HOME: 8 TRAINS", 8, x.ofStation(0, 4));
        check.is("at HOME: sound", true, x.isSound());
        check.is("at HOME: ENGINES", 1, x.ofStation(0, 2));
        for (int train = 0; train < 8; train++) {
            check.is("at HOME: waits", 5, x.waits(train));
        }
    }

    /** If less than RAMPS are unloaded at its GOAL, it is unloaded; 4 otherwise, till one is DONE. */
    private static void asManyAsThereAreRamps() {
        for (int ramps = 1; ramps <= 3; ramps++) {
            ThirteenthDay x = new ThirteenthDay();
            x.station(1, 0, 9, false);
            x.station(ramps, 5, 0, false);
            x.line(0, 1, 1, true, 0);
            x.railhead(0, 1, 6);
            x.foul(1, 40);
            Worlds.send(x, 3, 8, 0);
            x.pass(40 + 2 * ramps);
            check.is("ramps: all are taken", ramps, x.ofStation(1, 5));
            isTrain("ramps: one more stands", x, ramps, 0, ramps, 0, 1, NONE, 0, 0);
            check.is("ramps: waits for a RAMP", 4, x.waits(ramps));
            x.foul(1, 1);
            check.is("ramps: 4 alone, FOULED or not", 4, x.waits(ramps));
            x.pass(49 - x.many(0));
            check.is("ramps: it stands still", 0, x.ofTrain(ramps, 2));
            check.is("ramps: TRAIN 0 has its last TICK", 1, x.ofTrain(0, 5));
            x.pass(1);
            check.is("ramps: TRAIN 0 is DONE", 3, x.ofTrain(0, 2));
            check.is("ramps: the RAMP is taken in the same TICK", 2, x.ofTrain(ramps, 2));
            check.is("ramps: LEFT", 9, x.ofTrain(ramps, 5));
            check.is("ramps: as many as there are", ramps, x.ofStation(1, 5));
        }
    }

    /** FOUL, 1 less with each TICK that begins: for 1 TICK it is over with the next one, for 144 with the 144th. */
    private static void fouledToTheLastTick() {
        int[] ticks = {1, 2, 144};
        for (int fouled : ticks) {
            ThirteenthDay x = Worlds.chain(2, 3, 5, 1, true, 0);
            x.railhead(0, 1, 6);
            x.unit(0, 1, 0, 0);
            x.plan(0, 0);
            x.order(1);
            x.foul(0, 10);
            x.pass(9);
            check.is("foul: FOUL before", 1, x.foul(0, fouled));
            for (int k = 1; k < fouled; k++) {
                x.pass(1);
                check.is("foul: it stands", 5, x.waits(0));
            }
            check.is("foul: 1 is left", 1, x.foul(0, 1));
            x.pass(1);
            check.is("foul: it leaves", 1, x.ofTrain(0, 2));
            check.is("foul: none is left", 0, x.foul(0, 0));
            x.pass(1);
            check.is("foul: not less than 0", 0, x.foul(0, 0));
        }
    }

    /** STATION 1 has room for one TRAIN; the LINE is told from NEAR to FAR, or from FAR to NEAR. */
    private static ThirteenthDay roomForOne(int blocks, boolean isMirror) {
        ThirteenthDay x = new ThirteenthDay();
        x.station(1, 0, 9, false);
        x.station(1, 0, 9, false);
        x.line(isMirror ? 1 : 0, isMirror ? 0 : 1, blocks, true, 0);
        x.railhead(0, 1, 6);
        Worlds.send(x, 3, 2, 0);
        return x;
    }

    /** Of several: 5 ahead of 3; a BLOCK that is not the last one does not look at the STATION. */
    private static void aStationThatIsFouledAndFull() {
        for (int mirror = 0; mirror < 2; mirror++) {
            ThirteenthDay x = roomForOne(2, mirror == 1);
            x.pass(17);
            check.is("both: one is unloaded", 1, x.ofStation(1, 5));
            check.is("both: the other one has not gone", 1, x.many(5));
            x.pass(1);
            check.is("both: on the first BLOCK", mirror, x.ofTrain(1, 4));
            x.box(1, 1);
            x.foul(1, 9);
            x.pass(2);
            check.is("both: LEFT of 1 on the first BLOCK", 1, x.ofTrain(1, 5));
            check.is("both: the next BLOCK is free", 0, x.waits(1));
            x.pass(2);
            check.is("both: on the last BLOCK", 1 - mirror, x.ofTrain(1, 4));
            check.is("both: LEFT of 1 on the last BLOCK", 1, x.ofTrain(1, 5));
            check.is("both: FOULED", 5, x.waits(1));
            check.is("both: FOUL", 5, x.foul(1, 0));
            check.is("both: full alone", 3, x.waits(1));
            x.pass(1);
            check.is("both: neither, TRAIN 0 is DONE", 0, x.ofTrain(1, 2));
            ThirteenthDay y = roomForOne(1, mirror == 1);
            y.pass(19);
            check.is("both: full", 3, y.waits(1));
            y.foul(1, 1);
            check.is("both: FOULED ahead of full", 5, y.waits(1));
            y.foul(1, 0);
            y.pass(1);
            check.is("both: it does not come into a full STATION", 1, y.ofTrain(1, 2));
        }
    }

    /** On a BLOCK with LEFT of 1 or less it is asked as if it was to MOVE now; 0 with more. */
    private static void leftOfOneOrLess() {
        ThirteenthDay x = Worlds.chain(2, 3, 5, 1, true, 2);
        x.railhead(0, 1, 6);
        x.unit(0, 1, 0, 0);
        x.plan(0, 20);
        x.order(1);
        x.pass(20);
        x.foul(1, 5);
        int[] left = {4, 3, 2, 1, 0, 0};
        int[] waits = {0, 0, 0, 5, 5, 0};
        for (int k = 0; k < 5; k++) {
            check.is("left: at " + (20 + k), left[k], x.ofTrain(0, 5));
            check.is("left: waits at " + (20 + k), waits[k], x.waits(0));
            x.pass(1);
        }
        check.is("left: it stands as FOUL is over", 0, x.ofTrain(0, 2));
    }

    /** Two wars, the LINES of the other one told from FAR to NEAR: only the numbers of BLOCKS differ by that. */
    private static void fromFarToNear() {
        int full = 0;
        int fouled = 0;
        for (int blocks = 1; blocks <= 3; blocks++) {
            for (int twin = 0; twin < 2; twin++) {
                ThirteenthDay x = crowded(blocks, twin == 1, false);
                ThirteenthDay y = crowded(blocks, twin == 1, true);
                for (int tick = 1; tick <= 60; tick++) {
                    if (tick == 30 || tick == 45) {
                        int station = tick / 15 - 1;
                        check.is("mirror: FOUL", x.foul(station, 10), y.foul(station, 10));
                    }
                    x.pass(1);
                    y.pass(1);
                    int train = tick % 4;
                    if (train >= x.many(5)) {
                        continue;
                    }
                    for (int what = 2; what <= 6; what++) {
                        int due = x.ofTrain(train, what);
                        boolean isBlock = what == 4 && due != NONE;
                        check.is("mirror: ofTrain " + what, isBlock ? blocks - 1 - due : due, y.ofTrain(train, what));
                    }
                    int waits = x.waits(train);
                    check.is("mirror: waits", waits, y.waits(train));
                    full += waits == 3 ? 1 : 0;
                    fouled += waits == 5 ? 1 : 0;
                }
            }
        }
        check.is("mirror: some waited", true, full > 0 && fouled > 0);
    }

    /** Guns go over 1 to 2; both have room for one TRAIN. */
    private static ThirteenthDay crowded(int blocks, boolean isDouble, boolean isMirror) {
        ThirteenthDay x = new ThirteenthDay();
        x.station(1, 5, 9, false);
        x.station(1, 0, 9, false);
        x.station(1, 0, 9, false);
        for (int near = 0; near < 2; near++) {
            x.line(isMirror ? near + 1 : near, isMirror ? near : near + 1, blocks, isDouble, 0);
        }
        x.railhead(0, 2, 6);
        Worlds.send(x, 3, 4, 0);
        return x;
    }

    /** A HOT BOX of 1 to 72 TICKS: more LEFT on a BLOCK (of 0 too), more REST for one that stands. */
    private static void boxesAtTheirBounds() {
        ThirteenthDay x = Worlds.chain(3, 3, 5, 1, true, 0);
        x.railhead(0, 2, 6);
        x.foul(1, 24);
        x.unit(0, 1, 0, 0);
        x.plan(0, 20);
        x.order(1);
        x.pass(22);
        check.is("box: LEFT of 0, it waits", 0, x.ofTrain(0, 5));
        check.is("box: not LATE", 0, x.box(0, 1));
        check.is("box: LEFT of 1", 1, x.ofTrain(0, 5));
        x.pass(1);
        check.is("box: 72 on a BLOCK", 0, x.box(0, 72));
        check.is("box: LEFT of 72", 72, x.ofTrain(0, 5));
        x.pass(71);
        check.is("box: the last TICK", 1, x.ofTrain(0, 5));
        check.is("box: it waits for nothing", 0, x.waits(0));
        x.pass(1);
        check.is("box: it stands", "0 staff 0/0 at 1", x.tell(0));
        check.is("box: LATE by 70", 70, x.box(0, 72));
        check.is("box: and again", 70, x.box(0, 1));
        check.is("box: REST of 73", 73, x.ofTrain(0, 6));
        x.pass(73);
        check.is("box: REST is over", 0, x.ofTrain(0, 6));
        check.is("box: it stands still", 0, x.ofTrain(0, 2));
        x.pass(1);
        check.is("box: it leaves", 1, x.ofTrain(0, 2));
    }

    /** DRY is one that entered 12 BLOCKS or more ahead of this one: the 13th takes twice as long, by its own PACE. */
    private static void dryAtTwelve() {
        for (int grade = 0; grade <= 2; grade++) {
            int pace = 2 + grade;
            ThirteenthDay x = Worlds.chain(4, 3, 5, 5, true, grade);
            x.railhead(0, 3, 6);
            x.unit(0, 1, 0, 0);
            x.plan(0, 20);
            x.order(1);
            x.pass(20);
            for (int block = 1; block <= 15; block++) {
                check.is("dry: BLOCKS since water", block, x.ofTrain(0, 8));
                check.is("dry: LEFT of BLOCK " + block, block <= 12 ? pace : 2 * pace, x.ofTrain(0, 5));
                x.pass(x.ofTrain(0, 5) + (block % 5 == 0 && block < 15 ? 1 : 0));
            }
            isTrain("dry: no water here", x, 0, 0, 0, 0, 3, NONE, 0, 0, 3 * pace, 15, 3);
        }
    }

    /** With water, and 4 BLOCKS or more: REST of 2 TICKS, and 0 BLOCKS since. With 3 there is neither. */
    private static void waterAtFour() {
        for (int blocks = 3; blocks <= 5; blocks++) {
            ThirteenthDay x = new ThirteenthDay();
            x.station(3, 5, 9, true);
            x.station(3, 5, 9, true);
            x.line(0, 1, blocks, true, 0);
            x.railhead(0, 1, 6);
            x.unit(0, 1, 0, 0);
            x.plan(0, 20);
            x.order(1);
            x.pass(20);
            check.is("water: none as it goes", 0, x.ofTrain(0, 6));
            x.pass(2 * blocks);
            boolean isWater = blocks >= 4;
            isTrain("water: " + blocks, x, 0, 0, 0, 0, 1, NONE, 0, isWater ? 2 : 0, 0, isWater ? 0 : blocks, 1);
            check.is("water: waits", isWater ? 1 : 0, x.waits(0));
            x.pass(1);
            check.is("water: REST", isWater ? 1 : 0, x.ofTrain(0, 6));
            check.is("water: how it is", isWater ? 0 : 2, x.ofTrain(0, 2));
            x.pass(1);
            check.is("water: REST is over", 0, x.ofTrain(0, 6));
            check.is("water: it stands in its last TICK of REST", isWater ? 0 : 2, x.ofTrain(0, 2));
            x.pass(1);
            check.is("water: then it is unloaded", isWater ? 2 : 3, x.ofTrain(0, 2));
        }
    }

    /** One that was DRY has PACE again behind a STATION with water; 3 BLOCKS since are not enough there. */
    private static void waterEndsDryness() {
        ThirteenthDay x = new ThirteenthDay();
        for (int k = 0; k < 6; k++) {
            x.station(3, 5, 9, k >= 3);
        }
        for (int k = 0; k < 3; k++) {
            x.line(k, k + 1, 5, true, 0);
        }
        x.line(3, 4, 3, true, 0);
        x.line(4, 5, 1, true, 0);
        x.railhead(0, 5, 6);
        x.unit(0, 1, 0, 0);
        x.plan(0, 20);
        x.order(1);
        x.pass(20 + 10 + 1 + 10 + 1 + 4);
        isTrain("wet: the 13th BLOCK", x, 0, 0, 0, 1, 2, 2, 4, 0, 0, 13, 5);
        x.pass(12);
        isTrain("wet: water at 3", x, 0, 0, 0, 0, 3, NONE, 0, 2);
        check.is("wet: since water", 0, x.ofTrain(0, 8));
        x.pass(3);
        isTrain("wet: PACE again", x, 0, 0, 0, 1, 3, 0, 2, 0);
        check.is("wet: the first BLOCK since", 1, x.ofTrain(0, 8));
        x.pass(6);
        isTrain("wet: 3 BLOCKS are not enough at 4", x, 0, 0, 0, 0, 4, NONE, 0, 0);
        check.is("wet: since water", 3, x.ofTrain(0, 8));
        x.pass(3);
        isTrain("wet: the 4th is, at 5", x, 0, 0, 0, 0, 5, NONE, 0, 2);
        check.is("wet: since water again", 0, x.ofTrain(0, 8));
    }

    private static void noWater() {
        ThirteenthDay x = Worlds.chain(3, 3, 5, 5, true, 0);
        x.railhead(0, 2, 6);
        x.unit(0, 1, 0, 0);
        x.plan(0, 20);
        x.order(1);
        x.pass(30);
        isTrain("no water", x, 0, 0, 0, 0, 1, NONE, 0, 0, 0, 5, 2);
        x.pass(1);
        check.is("no water: it goes on at once", 1, x.ofTrain(0, 2));
    }

    /** Back at HOME 2 * the TIME of the way from there to HOME later; with that TICK it can go again. */
    private static void enginesComeBack() {
        ThirteenthDay x = new ThirteenthDay();
        x.station(3, 5, 1, false);
        x.station(3, 5, 0, false);
        x.line(0, 1, 3, true, 1);
        x.railhead(0, 1, 6);
        x.unit(0, 1, 0, 0);
        x.plan(0, 20);
        x.order(1);
        x.pass(31);
        check.is("back: the last TICK of unloading", 1, x.ofTrain(0, 5));
        x.pass(1);
        check.is("back: DONE at 32", 3, x.ofTrain(0, 2));
        x.pass(17);
        check.is("back: 17 TICKS later", 0, x.ofStation(0, 2));
        x.pass(1);
        check.is("back: 18 TICKS later", 1, x.ofStation(0, 2));
        x.pass(50);
        check.is("back: once", 1, x.ofStation(0, 2));
        check.is("back: none at the other one", 0, x.ofStation(1, 2));
    }

    /** The way of the moment in which it is DONE counts, whatever is CLOSED or open later. */
    private static void theWayOfTheMomentItIsDone() {
        for (int k = 0; k < 3; k++) {
            ThirteenthDay x = new ThirteenthDay();
            x.station(3, 5, 1, false);
            x.station(3, 5, 0, false);
            x.line(0, 1, 1, true, 0);
            x.line(0, 1, 5, true, 0);
            x.railhead(0, 1, 6);
            x.unit(0, 1, 0, 0);
            x.plan(0, 20);
            x.order(1);
            x.pass(24);
            if (k == 1) {
                x.bridge(0);
            }
            x.pass(1);
            check.is("moment: DONE", 3, x.ofTrain(0, 2));
            check.is("moment: not at once", 0, x.ofStation(0, 2));
            x.bridge(0);
            if (k == 2) {
                x.bridge(1);
            }
            int later = k == 1 ? 20 : 4;
            x.pass(later - 1);
            check.is("moment: a TICK too early", 0, x.ofStation(0, 2));
            x.pass(1);
            check.is("moment: back", 1, x.ofStation(0, 2));
        }
    }

    /** At once at HOME (no other one), if the TIME is 0, or without a way. */
    private static void enginesThatAreBackAtOnce() {
        for (int home = 0; home < 3; home++) {
            for (int railhead = 0; railhead < 3; railhead++) {
                ThirteenthDay x = Worlds.chain(3, 3, 5, 1, true, 0);
                x.railhead(0, railhead, 6);
                x.unit(0, 1, home, 0);
                x.plan(0, 20);
                x.order(1);
                x.pass(20);
                int lines = Math.abs(home - railhead);
                x.pass(Math.max(1, 3 * lines));
                x.bridge(0);
                x.bridge(1);
                check.is("at once: it is unloaded", 2, x.ofTrain(0, 2));
                check.is("at once: not yet", 8, x.ofStation(home, 2));
                x.pass(lines == 0 ? 1 : 2);
                check.is("at once: DONE", 3, x.ofTrain(0, 2));
                for (int station = 0; station < 3; station++) {
                    check.is("at once: ENGINES at " + station, 9, x.ofStation(station, 2));
                }
            }
        }
    }

    /** The LINE had one more that came through as it stands behind it, not as it is on its last BLOCK. */
    private static void comingThrough() {
        ThirteenthDay x = Worlds.chain(2, 3, 5, 2, true, 0);
        x.railhead(0, 1, 6);
        Worlds.send(x, 0, 3, 0);
        int[] due = {0, 0, 0, 0, 1, 1, 1, 1, 1, 1, 2, 2, 2, 2, 2, 2, 3, 3};
        int[] on = {1, 1, 1, 1, 0, 0, 1, 1, 1, 1, 0, 0, 1, 1, 1, 1, 0, 0};
        x.pass(5);
        for (int k = 0; k < due.length; k++) {
            x.pass(1);
            check.is("through: at " + (6 + k), due[k], x.ofLine(0, 6));
            check.is("through: on it at " + (6 + k), on[k], x.ofLine(0, 5));
        }
    }

    /** NONE, if DONE: where it is, its BLOCK; 0: LEFT, REST, LATE; it waits for nothing. */
    private static void factsOfOneThatIsDone() {
        ThirteenthDay x = new ThirteenthDay();
        x.station(3, 5, 9, true);
        x.station(3, 5, 9, true);
        x.line(1, 0, 4, true, 0);
        x.railhead(2, 1, 6);
        check.is("done: START", 3, x.supply(2, 3));
        x.pass(100);
        isTrain("done", x, 0, NONE, 2, 3, NONE, NONE, 0, 0, 0, 0, 1);
        check.is("done: waits for nothing", 0, x.waits(0));
        check.is("done: told", "0 supply 2 done", x.tell(0));
        check.is("done: none at 1", 0, x.ofStation(1, 4));
        check.is("done: none unloaded at 1", 0, x.ofStation(1, 5));
        check.is("done: none on the LINE", 0, x.ofLine(0, 5));
    }
}
