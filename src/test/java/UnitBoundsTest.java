/** Section 2: what bounds UNITS, SECTORS, wires and DEPOTS, and what holds where there is none. */
public final class UnitBoundsTest {
    private static final Check check = new Check("UnitBoundsTest");
    private static final int NONE = -1;
    private static final int PEACE = 0;
    private static final int ORDERED = 1;
    private static final int CALLED = 2;
    private static final int STOPPED = 3;

    public static void main(String[] args) {
        eachValueOfAUnit();
        sixUnits();
        weightsAndUnloading();
        railheadsAndMarches();
        railheadsThatAreBound();
        railheadOfATrainAlone();
        railheadsOfOtherSectors();
        setsOfUnits();
        wiresByTheirLines();
        wiresByTheWayThere();
        wiresWithoutAWay();
        depotsOneBehindTheOther();
        depotsAsTheyWereCalled();
        eachStationHasADepot();
        theLastTickToStop();
        theLastTickToStopFarAway();
        stopsAheadOfTheWork();
        stopsOfWhatIsReady();
        stopsOfOneThatIsNotCalled();
        orderAndStopAtOneTick();
        ticksInWhichItCouldBeStopped();
        theLastPathIsThatOfTheGreatestLoad();
        eightPathsOfEach();
        check.end();
    }

    /** KIND (0 to 4), LOADS (1 to 8); how a UNIT is as it is told. */
    private static void eachValueOfAUnit() {
        for (int kind = 0; kind <= 4; kind++) {
            for (int loads = 1; loads <= 8; loads++) {
                ThirteenthDay x = new ThirteenthDay();
                x.land(1, 0);
                check.is("unit: number", 0, x.unit(kind, loads, loads % 6, kind % 3));
                int[] due = {kind, loads, loads % 6, kind % 3, PEACE, NONE, 0, 0, 0, 0, NONE, 0, NONE};
                for (int what = 0; what <= 12; what++) {
                    check.is("unit: " + what, due[what], x.ofUnit(0, what));
                }
                for (int load = 0; load < loads; load++) {
                    for (int what = 0; what <= 2; what++) {
                        check.is("unit: no PATH", NONE, x.path(0, load, what));
                    }
                }
            }
        }
    }

    /** UNITS: at most 6, numbered from 0, each with its own SECTOR as AIM in all VARIANTS. */
    private static void sixUnits() {
        Twin t = new Twin(check, "six UNITS");
        t.tell(x -> x.station(1, 0, 0, false));
        for (int k = 0; k < 6; k++) {
            int number = k;
            t.is("number", number, x -> x.unit(4, 8, 0, number % 3));
            t.is("how many", number + 1, x -> x.many(4));
        }
        t.noTime("one more", x -> x.unit(0, 1, 0, 0));
        t.is("still six", 6, x -> x.many(4));
        for (int k = 0; k < 24; k++) {
            int unit = k % 6;
            int variant = k / 6;
            t.is("AIM", unit % 3, x -> x.aim(variant, unit, unit % 3));
        }
        t.liveOn();
    }

    /** A WEIGHT in fights of 1, 4, 3, 6, 0 by KINDS; it takes 2, 3, 6, 9, 4 TICKS to unload. */
    private static void weightsAndUnloading() {
        int[] weights = {1, 4, 3, 6, 0};
        int[] unloading = {2, 3, 6, 9, 4};
        for (int kind = 0; kind <= 4; kind++) {
            ThirteenthDay x = Worlds.camp();
            Worlds.send(x, kind, 2, 0);
            for (int k = 0; k < 20 && x.many(5) == 0; k++) {
                x.pass(1);
            }
            check.is("unloading: LEFT", unloading[kind], x.ofTrain(0, 5));
            x.pass(unloading[kind] - 1);
            check.is("unloading: the last TICK", 2, x.ofTrain(0, 2));
            x.pass(1);
            check.is("unloading: DONE", 3, x.ofTrain(0, 2));
            Worlds.passTo(x, 143);
            check.is("weight: two LOADS", 2, x.ofSector(0, 2));
            check.is("weight: of two", 2 * weights[kind], x.ofSector(0, 3));
            check.is("weight: none at another SECTOR", 0, x.ofSector(1, 3));
        }
    }

    /** RAILHEAD (NONE at first) and MARCH (6 to 144 TICKS; 24 at first). */
    private static void railheadsAndMarches() {
        Twin t = new Twin(check, "railhead");
        for (int k = 0; k < 3; k++) {
            int sector = k;
            t.is("NONE at first", NONE, x -> x.ofSector(sector, 0));
            t.is("24 at first", 24, x -> x.ofSector(sector, 1));
            t.noPlace("without a STATION", x -> x.railhead(sector, 0, 24));
        }
        t.tell(x -> x.land(1, 0));
        for (int k = 0; k < 3; k++) {
            int sector = k;
            t.is("before the first", NONE, x -> x.railhead(sector, 5, 6));
            t.is("MARCH of 6", 6, x -> x.ofSector(sector, 1));
            t.noWorth("MARCH of 5", x -> x.railhead(sector, 0, 5));
            t.is("before the second", 5, x -> x.railhead(sector, 0, 144));
            t.is("MARCH of 144", 144, x -> x.ofSector(sector, 1));
            t.noWorth("MARCH of 145", x -> x.railhead(sector, 0, 145));
            t.is("the same again", 0, x -> x.railhead(sector, 0, 143));
            t.is("RAILHEAD now", 0, x -> x.ofSector(sector, 0));
        }
        t.liveOn();
    }

    /** Not if a PATH for this SECTOR is kept, or a TRAIN for it is on its way; LOADS that MARCH do not bind it. */
    private static void railheadsThatAreBound() {
        Twin t = new Twin(check, "railhead bound");
        t.tell(x -> x.land(1, 0));
        t.is("of SECTOR 0", NONE, x -> x.railhead(0, 3, 10));
        t.is("of SECTOR 1", NONE, x -> x.railhead(1, 3, 10));
        t.tell(x -> x.unit(1, 1, 0, 0));
        t.is("a UNIT without PATHS", 3, x -> x.railhead(0, 3, 11));
        t.is("START", 0, x -> x.plan(0, 0));
        t.noTime("a PATH", x -> x.railhead(0, 3, 10));
        t.is("of another SECTOR", 3, x -> x.railhead(1, 3, 11));
        t.tell(x -> x.drop(0));
        t.is("the PATH is dropped", 3, x -> x.railhead(0, 3, 12));
        t.tell(x -> x.plan(0, 0));
        t.tell(x -> x.order(1));
        t.tell(x -> x.foul(0, 8));
        t.tell(x -> x.pass(7));
        t.is("the TRAIN stands at HOME", "0 foot 0/0 at 0", x -> x.tell(0));
        t.noTime("it stands at HOME", x -> x.railhead(0, 3, 10));
        t.tell(x -> x.pass(2));
        t.is("the TRAIN is on its way", "0 foot 0/0 on 5.0", x -> x.tell(0));
        t.noTime("it is on its way", x -> x.railhead(0, 3, 10));
        t.tell(x -> x.pass(4));
        t.is("the TRAIN is unloaded", "0 foot 0/0 unloads at 3", x -> x.tell(0));
        t.noTime("it is unloaded", x -> x.railhead(0, 3, 10));
        t.tell(x -> x.pass(1));
        t.is("the TRAIN is DONE", "0 foot 0/0 done", x -> x.tell(0));
        t.is("the LOAD MARCHES", 3, x -> x.railhead(0, 4, 100));
        t.tell(x -> x.pass(11));
        t.is("not there", 0, x -> x.ofSector(0, 2));
        t.tell(x -> x.pass(1));
        t.is("there by the MARCH of old", 1, x -> x.ofSector(0, 2));
        t.is("a SUPPLY", 40, x -> x.supply(0, 40));
        t.noTime("a PATH of a SUPPLY", x -> x.railhead(0, 3, 10));
        t.liveOn();
    }

    /** A TRAIN goes on to where it was to go, though its UNIT has another SECTOR by then. */
    private static void railheadOfATrainAlone() {
        Twin t = new Twin(check, "railhead of a TRAIN");
        t.tell(x -> x.land(5, 2));
        t.tell(x -> x.railhead(0, 3, 10));
        t.tell(x -> x.railhead(1, 1, 10));
        t.tell(x -> x.unit(0, 2, 0, 0));
        t.tell(x -> x.plan(0, 0));
        t.tell(x -> x.order(1));
        t.tell(x -> x.pass(6));
        t.is("one has gone", 1, x -> x.ofUnit(0, 7));
        t.tell(x -> x.aim(0, 0, 1));
        t.is("one LOAD has a new PATH", 1, x -> x.change(0));
        t.noTime("a TRAIN for it, no LOAD", x -> x.railhead(0, 3, 10));
        t.noTime("a PATH for it", x -> x.railhead(1, 1, 10));
        t.is("the PATH is dropped", 1, x -> x.drop(0));
        t.is("no PATH for it", 1, x -> x.railhead(1, 1, 10));
        t.noTime("still the TRAIN", x -> x.railhead(0, 3, 10));
        t.liveOn();
        t.is("DONE long ago", 3, x -> x.railhead(0, 3, 10));
    }

    /** At each TICK of a TRAIN's way it binds its own SECTOR, and no other one. */
    private static void railheadsOfOtherSectors() {
        for (int sector = 0; sector < 3; sector++) {
            ThirteenthDay x = Worlds.chain(4, 1, 0, 1, true, 0);
            x.railhead(sector, 3, 6);
            x.unit(0, 1, 0, sector);
            x.plan(0, 20);
            x.order(1);
            x.pass(19);
            for (int tick = 20; tick <= 34; tick++) {
                x.pass(1);
                boolean isDone = tick >= 33;
                check.is("other: DONE at " + tick, isDone, x.ofTrain(0, 2) == 3);
                for (int other = 0; other < 3; other++) {
                    int march = 6 + tick;
                    if (other != sector || isDone) {
                        x.railhead(other, 3, march);
                        check.is("other: MARCH", march, x.ofSector(other, 1));
                    } else {
                        int bound = other;
                        check.noTime("other: bound at " + tick, x, () -> x.railhead(bound, 3, march));
                    }
                }
                if (tick == 22) {
                    x.box(0, 2);
                }
            }
        }
    }

    /** A set is the sum of 2^k; those that are not at PEACE are left out. */
    private static void setsOfUnits() {
        for (int units = 0; units <= 6; units++) {
            Twin t = new Twin(check, "sets of " + units);
            t.tell(x -> x.station(1, 0, 0, false));
            for (int k = 0; k < units; k++) {
                t.tell(x -> x.unit(0, 1, 0, 0));
            }
            int all = (1 << units) - 1;
            t.noWorth("one that there is not", x -> x.order(all + 1));
            t.is("none of them", 0, x -> x.order(0));
            if (units > 0) {
                int last = units - 1;
                t.is("the last one", 1, x -> x.order(1 << last));
                t.is("the last one is not at PEACE", 0, x -> x.order(1 << last));
                t.is("ORDERED", ORDERED, x -> x.ofUnit(last, 4));
                t.is("all the others", units - 1, x -> x.order(all));
                t.is("wires", units, x -> x.many(11));
                t.tell(x -> x.pass(1));
                t.is("CALLED", CALLED, x -> x.ofUnit(last, 4));
                t.is("none at PEACE", 0, x -> x.order(all));
                t.is("no wires", 0, x -> x.many(11));
            }
            t.liveOn();
        }
    }

    /** 3 TICKS later for each LINE of the way there; with the next TICK, if it is none. */
    private static void wiresByTheirLines() {
        for (int home = 0; home <= 9; home++) {
            int due = home == 0 ? 1 : 3 * home;
            ThirteenthDay x = Worlds.chain(10, 1, 0, 5, false, 2);
            x.unit(0, 1, home, 0);
            check.is("wire: one is ORDERED", 1, x.order(1));
            check.is("wire: one to STOP it", due, x.stop(0));
            check.is("wire: two wires", 2, x.many(11));
            if (due > 1) {
                x.pass(due - 1);
            }
            check.is("wire: ORDERED", ORDERED, x.ofUnit(0, 4));
            check.is("wire: not CALLED yet", NONE, x.ofUnit(0, 5));
            x.pass(1);
            check.is("wire: CALLED", due, x.ofUnit(0, 5));
            check.is("wire: and STOPPED", STOPPED, x.ofUnit(0, 4));
            check.is("wire: no wires", 0, x.many(11));
        }
    }

    /** Of the way from STATION 0 to HOME, not of the way back: 1 LINE, not 2. */
    private static void wiresByTheWayThere() {
        ThirteenthDay x = Worlds.anotherWayBack();
        x.unit(0, 1, 3, 0);
        x.order(1);
        check.is("there: a wire to STOP", 3, x.stop(0));
        x.pass(2);
        check.is("there: ORDERED", ORDERED, x.ofUnit(0, 4));
        x.pass(1);
        check.is("there: CALLED", 3, x.ofUnit(0, 5));
    }

    /** 30 later without a way: that of the moment in which the wire is sent. */
    private static void wiresWithoutAWay() {
        ThirteenthDay x = Worlds.chain(2, 1, 0, 1, false, 0);
        x.station(1, 0, 1, false);
        x.unit(0, 1, 2, 0);
        x.unit(0, 1, 1, 0);
        x.pass(4);
        x.order(1);
        x.bridge(0);
        x.order(2);
        x.bridge(0);
        x.line(1, 2, 1, true, 0);
        x.pass(29);
        check.is("no way: ORDERED", ORDERED, x.ofUnit(0, 4));
        check.is("no way as it was sent: ORDERED", ORDERED, x.ofUnit(1, 4));
        x.pass(1);
        check.is("no way: CALLED", 34, x.ofUnit(0, 5));
        check.is("no way as it was sent: CALLED", 34, x.ofUnit(1, 5));
        check.is("no way: by now there is one", 40, x.stop(0));
        x.bridge(0);
        check.is("no way: a wire to STOP", 64, x.stop(1));
        x.pass(29);
        check.is("no way: still on its way", 1, x.many(11));
        check.is("no way: 7 TICKS left", 7, x.ofUnit(1, 12));
        x.pass(1);
        check.is("no way: STOPPED", STOPPED, x.ofUnit(1, 4));
        check.is("no way: no wires", 0, x.many(11));
    }

    private static void isReady(ThirteenthDay x, int tick, int... due) {
        Worlds.passTo(x, tick);
        for (int unit = 0; unit < due.length; unit++) {
            check.is("READY of " + unit + " at " + tick, due[unit], x.ofUnit(unit, 6));
        }
    }

    /** UNIT by UNIT (of several at one TICK the smallest number), LOAD by LOAD; 6 TICKS, 9 with KIND 2 or 3. */
    private static void depotsOneBehindTheOther() {
        ThirteenthDay x = Worlds.chain(1, 1, 0, 1, false, 0);
        x.unit(1, 2, 0, 0);
        x.unit(2, 1, 0, 0);
        x.unit(3, 1, 0, 0);
        x.unit(4, 1, 0, 0);
        x.unit(0, 1, 0, 0);
        x.order(31);
        isReady(x, 5, 0, 0, 0, 0, 0);
        isReady(x, 6, 1, 0, 0, 0, 0);
        isReady(x, 11, 1, 0, 0, 0, 0);
        isReady(x, 12, 2, 0, 0, 0, 0);
        isReady(x, 20, 2, 0, 0, 0, 0);
        isReady(x, 21, 2, 1, 0, 0, 0);
        isReady(x, 29, 2, 1, 0, 0, 0);
        isReady(x, 30, 2, 1, 1, 0, 0);
        isReady(x, 35, 2, 1, 1, 0, 0);
        isReady(x, 36, 2, 1, 1, 1, 0);
        isReady(x, 41, 2, 1, 1, 1, 0);
        isReady(x, 42, 2, 1, 1, 1, 1);
        isReady(x, 60, 2, 1, 1, 1, 1);
    }

    /** As they were CALLED: a TICK earlier counts more than a smaller number. */
    private static void depotsAsTheyWereCalled() {
        ThirteenthDay x = Worlds.chain(1, 1, 0, 1, false, 0);
        x.unit(1, 2, 0, 0);
        x.unit(2, 2, 0, 0);
        x.order(2);
        x.pass(1);
        x.order(1);
        isReady(x, 8, 0, 0);
        isReady(x, 9, 0, 1);
        isReady(x, 17, 0, 1);
        isReady(x, 18, 0, 2);
        isReady(x, 23, 0, 2);
        isReady(x, 24, 1, 2);
        isReady(x, 30, 2, 2);
        x.unit(0, 1, 0, 0);
        x.order(4);
        isReady(x, 35, 2, 2, 0);
        isReady(x, 36, 2, 2, 1);
    }

    private static void eachStationHasADepot() {
        ThirteenthDay x = Worlds.chain(3, 1, 0, 1, false, 0);
        for (int home = 0; home < 3; home++) {
            x.unit(0, 1, home, 0);
        }
        x.order(7);
        isReady(x, 6, 1, 0, 0);
        isReady(x, 7, 1, 0, 0);
        isReady(x, 8, 1, 1, 0);
        isReady(x, 10, 1, 1, 0);
        isReady(x, 11, 1, 1, 1);
    }

    /** With less than 36 TICKS since the UNIT was CALLED it is STOPPED, otherwise it rolls. */
    private static void theLastTickToStop() {
        for (int late = 0; late < 2; late++) {
            ThirteenthDay x = Worlds.chain(2, 1, 0, 1, false, 0);
            x.railhead(0, 1, 6);
            x.unit(1, 8, 0, 0);
            x.order(1);
            x.plan(0, 100);
            x.pass(35 + late);
            check.is("last: TICKS left as it is sent", 2 - late, x.ofUnit(0, 12));
            check.is("last: the wire", 36 + late, x.stop(0));
            x.pass(1);
            check.is("last: how it stands", late == 0 ? STOPPED : CALLED, x.ofUnit(0, 4));
            check.is("last: CALLED stays", 1, x.ofUnit(0, 5));
            check.is("last: TICKS left", late == 0 ? NONE : 0, x.ofUnit(0, 12));
            check.is("last: PATHS", late == 0 ? 0 : 8, x.ofUnit(0, 11));
            check.is("last: READY, the sixth at TICK 36 no more", 5 + late, x.ofUnit(0, 6));
            x.pass(120);
            check.is("last: READY in the end", late == 0 ? 5 : 8, x.ofUnit(0, 6));
            check.is("last: gone in the end", late == 0 ? 0 : 8, x.ofUnit(0, 7));
        }
    }

    private static void theLastTickToStopFarAway() {
        for (int late = 0; late < 2; late++) {
            ThirteenthDay x = Worlds.chain(4, 1, 0, 1, false, 0);
            x.unit(1, 8, 3, 0);
            x.order(1);
            x.pass(35 + late);
            check.is("far: CALLED at", 9, x.ofUnit(0, 5));
            check.is("far: TICKS left as it is sent", 10 - late, x.ofUnit(0, 12));
            check.is("far: the wire", 44 + late, x.stop(0));
            x.pass(8);
            check.is("far: still CALLED", CALLED, x.ofUnit(0, 4));
            x.pass(1);
            check.is("far: how it stands", late == 0 ? STOPPED : CALLED, x.ofUnit(0, 4));
        }
    }

    /** What was done of a LOAD of a UNIT that is STOPPED is lost: the next UNIT has the DEPOT with the same TICK. */
    private static void stopsAheadOfTheWork() {
        ThirteenthDay x = Worlds.chain(1, 1, 0, 1, false, 0);
        x.unit(1, 2, 0, 0);
        x.unit(1, 1, 0, 0);
        x.order(3);
        x.pass(5);
        x.stop(0);
        isReady(x, 6, 0, 0);
        check.is("lost: STOPPED at the TICK of its last work", STOPPED, x.ofUnit(0, 4));
        isReady(x, 10, 0, 0);
        isReady(x, 11, 0, 1);
        isReady(x, 50, 0, 1);
    }

    /** LOADS that are READY and have not gone do not go any more; READY stays as it was. */
    private static void stopsOfWhatIsReady() {
        ThirteenthDay x = Worlds.chain(2, 3, 0, 1, false, 0);
        x.railhead(0, 1, 6);
        x.unit(1, 3, 0, 0);
        x.plan(0, 20);
        x.order(1);
        x.pass(19);
        check.is("ready: all", 3, x.ofUnit(0, 6));
        x.stop(0);
        x.pass(1);
        check.is("ready: STOPPED at START", STOPPED, x.ofUnit(0, 4));
        check.is("ready: none has gone", 0, x.ofUnit(0, 7));
        check.is("ready: PATHS are gone", 0, x.many(7));
        x.pass(50);
        check.is("ready: none goes", 0, x.many(5));
        check.is("ready: stays", 3, x.ofUnit(0, 6));
        ThirteenthDay y = Worlds.chain(2, 3, 0, 1, false, 0);
        y.railhead(0, 1, 6);
        y.unit(1, 3, 0, 0);
        y.plan(0, 20);
        y.order(1);
        y.pass(20);
        y.stop(0);
        y.pass(1);
        check.is("ready: one has gone", 1, y.ofUnit(0, 7));
        check.is("ready: its PATH is kept", 20, y.path(0, 0, 0));
        check.is("ready: that of the next one is gone", NONE, y.path(0, 1, 0));
        y.pass(50);
        check.is("ready: it came to its SECTOR", 1, y.ofUnit(0, 9));
        check.is("ready: nobody else has gone", 1, y.many(5));
    }

    /** A wire to ORDER one that is STOPPED by then does nothing, but is on its way till it is there. */
    private static void stopsOfOneThatIsNotCalled() {
        Twin t = new Twin(check, "not CALLED yet");
        t.tell(x -> x.station(1, 0, 1, false));
        t.tell(x -> x.station(1, 0, 1, false));
        t.tell(x -> x.railhead(0, 0, 6));
        t.tell(x -> x.unit(1, 2, 1, 0));
        t.is("ORDERED without a way", 1, x -> x.order(1));
        t.tell(x -> x.line(0, 1, 1, true, 0));
        t.is("PLANNED", 3, x -> x.plan(0, 0));
        t.is("the wire to STOP", 3, x -> x.stop(0));
        t.noTime("a second one", x -> x.stop(0));
        t.tell(x -> x.pass(2));
        t.is("ORDERED still", ORDERED, x -> x.ofUnit(0, 4));
        t.tell(x -> x.pass(1));
        t.is("STOPPED", STOPPED, x -> x.ofUnit(0, 4));
        t.is("PATHS are gone", 0, x -> x.ofUnit(0, 11));
        t.is("one wire is on its way", 1, x -> x.many(11));
        t.noTime("STOPPED by then", x -> x.stop(0));
        t.noTime("not to be PLANNED", x -> x.plan(0, 3));
        t.tell(x -> x.pass(26));
        t.is("the wire is on its way", 1, x -> x.many(11));
        t.tell(x -> x.pass(1));
        t.is("the wire is there", 0, x -> x.many(11));
        t.is("it does nothing", STOPPED, x -> x.ofUnit(0, 4));
        t.is("it never was CALLED", NONE, x -> x.ofUnit(0, 5));
        t.is("never to be ORDERED again", 0, x -> x.order(1));
        t.tell(x -> x.pass(50));
        t.is("nothing is made READY", 0, x -> x.ofUnit(0, 6));
        t.liveOn();
    }

    /** Those to ORDER come first: it is CALLED for no time, and its DEPOT does not begin. */
    private static void orderAndStopAtOneTick() {
        ThirteenthDay x = Worlds.chain(2, 1, 0, 1, true, 0);
        x.unit(1, 1, 1, 0);
        x.unit(1, 1, 1, 0);
        x.order(3);
        x.stop(0);
        x.pass(3);
        check.is("one TICK: STOPPED", STOPPED, x.ofUnit(0, 4));
        check.is("one TICK: CALLED at", 3, x.ofUnit(0, 5));
        check.is("one TICK: TICKS left", NONE, x.ofUnit(0, 12));
        isReady(x, 7, 0, 0);
        isReady(x, 8, 0, 1);
    }

    /** 36, less TICKS since it was CALLED, 0 at least; NONE, if it is not CALLED now. */
    private static void ticksInWhichItCouldBeStopped() {
        ThirteenthDay x = Worlds.chain(2, 1, 0, 1, true, 0);
        x.unit(1, 1, 1, 0);
        check.is("left: at PEACE", NONE, x.ofUnit(0, 12));
        x.order(1);
        for (int tick = 0; tick <= 50; tick++) {
            int due = tick < 3 ? NONE : tick < 39 ? 39 - tick : 0;
            check.is("left: at " + tick, due, x.ofUnit(0, 12));
            x.pass(1);
        }
        Worlds.passTo(x, 2880);
        check.is("left: at the end", 0, x.ofUnit(0, 12));
    }

    /** Of its LOAD with the greatest number that has one, though another one ARRIVES later. */
    private static void theLastPathIsThatOfTheGreatestLoad() {
        ThirteenthDay x = Worlds.chain(2, 3, 0, 5, false, 2);
        x.railhead(0, 1, 6);
        x.unit(0, 3, 0, 0);
        check.is("last PATH: none", NONE, x.ofUnit(0, 10));
        x.plan(0, 0);
        check.is("last PATH: START 8 and 20", 28, x.ofUnit(0, 10));
        x.order(1);
        x.pass(6);
        x.drop(0);
        check.is("last PATH: of the LOAD that has gone", 20, x.ofUnit(0, 10));
        check.is("last PATH: one is kept", 1, x.ofUnit(0, 11));
        x.line(1, 0, 1, false, 0);
        x.plan(0, 7);
        check.is("last PATH: START 9 and 2 by the new LINE", 11, x.ofUnit(0, 10));
        check.is("last PATH: three are kept", 3, x.ofUnit(0, 11));
    }

    /** UNIT by UNIT 8 PATHS at most, each UNIT's own. */
    private static void eightPathsOfEach() {
        ThirteenthDay x = Worlds.camp();
        for (int unit = 0; unit < 6; unit++) {
            x.unit(0, 8, 0, 0);
        }
        for (int unit = 5; unit >= 0; unit--) {
            check.is("eight: START of the last", 100 + 8 * unit + 7, x.plan(unit, 100 + 8 * unit));
            for (int other = 0; other < 6; other++) {
                check.is("eight: PATHS of " + other, other < unit ? 0 : 8, x.ofUnit(other, 11));
                check.is("eight: the last ARRIVES", other < unit ? NONE : 107 + 8 * other, x.ofUnit(other, 10));
            }
            check.is("eight: of all", 8 * (6 - unit), x.many(7));
        }
        for (int unit = 0; unit < 6; unit++) {
            check.is("eight: dropped", 8, x.drop(unit));
            check.is("eight: those of the others are left", 8 * (5 - unit), x.many(7));
        }
    }
}
