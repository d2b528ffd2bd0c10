/** Section 5: what bounds marches, STORES, SUPPLIES and forecasts, and what holds where there is none. */
public final class StoreBoundsTest {
    private static final Check check = new Check("StoreBoundsTest");
    private static final int NONE = -1;

    public static void main(String[] args) {
        fourTicksApart();
        inTheOrderInWhichTrainsMoved();
        eachSectorHasItsRoad();
        marchesOf6And144();
        asManyAsThereCanBe();
        aLaterLoadComesFirst();
        storesUpTo999();
        aFullStoreAndABakery();
        justEnoughAndOneTooLittle();
        bakeriesBringFirst();
        suppliesAreNoLoads();
        sixSupplies();
        theSixthGoesFirst();
        sixAtOneTick();
        sentBehindOneThatIsDone();
        suppliesToEachSector();
        supplyFromTickTo2880();
        forecastOfWhatMarches();
        forecastOfPaths();
        forecastOfTheLastDay();
        forecastOfOtherSectors();
        forecastOfNobody();
        check.end();
    }

    /** One LOAD begins each 4 TICKS: at that TICK, or 4 behind the one ahead of it, if that is later. */
    private static void fourTicksApart() {
        for (int gap = 0; gap <= 6; gap++) {
            ThirteenthDay x = Worlds.camp();
            x.unit(0, 1, 0, 0);
            x.unit(0, 1, 0, 0);
            x.plan(0, 50);
            x.plan(1, 50 + gap);
            x.order(3);
            x.pass(51);
            check.is("road: 0 without one", 0, x.ofSector(0, 12));
            x.pass(1);
            check.is("road: 4 behind that at which the last one began", gap == 0 ? 60 : 56, x.ofSector(0, 12));
            if (gap > 0) {
                check.is("road: one is unloaded", 1, x.many(9));
                x.pass(gap);
            }
            int begins = Math.max(56, 52 + gap);
            check.is("road: gap " + gap, gap == 0 ? 60 : begins + 4, x.ofSector(0, 12));
            Worlds.passTo(x, begins + 5);
            check.is("road: one is there", 1, x.ofSector(0, 2));
            x.pass(1);
            check.is("road: both are there", 2, x.ofSector(0, 2));
        }
    }

    /** First come first; of one TICK in the order in which TRAINS MOVED: TRAIN 1 is the later one. */
    private static void inTheOrderInWhichTrainsMoved() {
        ThirteenthDay x = Worlds.camp();
        x.unit(1, 1, 0, 0);
        x.unit(0, 1, 0, 0);
        x.plan(0, 49);
        x.plan(1, 40);
        x.order(1);
        x.pass(44);
        x.order(2);
        x.pass(8);
        check.is("moved: TRAIN 0", "0 foot 0/0 done", x.tell(0));
        check.is("moved: TRAIN 1", "1 staff 1/0 done", x.tell(1));
        check.is("moved: both are unloaded in one TICK", 2, x.many(9));
        check.is("moved: the ROAD", 60, x.ofSector(0, 12));
        x.pass(6);
        check.is("moved: UNIT 1 is there", 1, x.ofUnit(1, 9));
        check.is("moved: UNIT 0 is not", 0, x.ofUnit(0, 9));
        x.pass(3);
        check.is("moved: not yet", 0, x.ofUnit(0, 9));
        x.pass(1);
        check.is("moved: 4 TICKS later it is", 1, x.ofUnit(0, 9));
    }

    private static void eachSectorHasItsRoad() {
        ThirteenthDay x = Worlds.camp();
        x.railhead(2, 0, 6);
        for (int sector = 0; sector < 3; sector++) {
            x.unit(0, 1, 0, sector);
            x.plan(sector, 50);
        }
        x.order(7);
        x.pass(52);
        for (int sector = 0; sector < 3; sector++) {
            check.is("own road: free", 56, x.ofSector(sector, 12));
        }
        x.pass(6);
        for (int sector = 0; sector < 3; sector++) {
            check.is("own road: there", 1, x.ofSector(sector, 2));
        }
    }

    private static void marchesOf6And144() {
        int[] marches = {6, 144};
        for (int march : marches) {
            ThirteenthDay x = Worlds.camp();
            x.railhead(0, 0, march);
            x.unit(0, 1, 0, 0);
            x.plan(0, 50);
            x.order(1);
            x.pass(52);
            check.is("march: unloaded", 1, x.ofUnit(0, 8));
            x.railhead(0, 0, 100);
            x.pass(march - 1);
            check.is("march: not there", 0, x.ofUnit(0, 9));
            x.pass(1);
            check.is("march: there", 1, x.ofUnit(0, 9));
            check.is("march: at the SECTOR", 1, x.ofSector(0, 2));
        }
    }

    /** 6 UNITS of 8 LOADS: one is READY each 6 TICKS, unloaded 3 and at its SECTOR 9 TICKS later. */
    private static void asManyAsThereCanBe() {
        ThirteenthDay x = Worlds.camp();
        x.railhead(2, 0, 6);
        for (int unit = 0; unit < 6; unit++) {
            x.unit(1, 8, 0, unit % 3);
            x.plan(unit, 0);
        }
        check.is("all: ORDERED", 6, x.order(63));
        int[][] due = {{144, 8, 8, 6}, {288, 16, 16, 14}, {296, 16, 16, 15}, {297, 16, 16, 16}};
        int[][] stores = {{12, 12, 14}, {0, 0, 0}, {0, 0, 0}, {0, 0, 0}};
        for (int k = 0; k < due.length; k++) {
            Worlds.passTo(x, due[k][0]);
            for (int sector = 0; sector < 3; sector++) {
                check.is("all: LOADS at " + due[k][0], due[k][sector + 1], x.ofSector(sector, 2));
                check.is("all: their WEIGHT", 4 * due[k][sector + 1], x.ofSector(sector, 3));
                check.is("all: STORE", stores[k][sector], x.ofSector(sector, 7));
                check.is("all: HUNGRY", k > 0 && sector < 2 ? 1 : 0, x.ofSector(sector, 8));
                check.is("all: forecast of DAY 3", 64, x.forecast(sector, 3));
            }
        }
        for (int unit = 0; unit < 6; unit++) {
            for (int what = 6; what <= 9; what++) {
                check.is("all: ofUnit " + what, 8, x.ofUnit(unit, what));
            }
        }
        check.is("all: unloaded", 48, x.many(9));
        check.is("all: TRAINS", 48, x.many(6));
        x.foe(0, 2, 3, 60);
        Worlds.passTo(x, 432);
        check.is("all: OWN is 32 as they are HUNGRY", 56, x.ofSector(2, 4));
        check.is("all: WOUNDED", 7, x.ofSector(2, 9));
    }

    /** LOAD 1 is unloaded and at its SECTOR ahead of LOAD 0, whose TRAIN has a hot box. */
    private static void aLaterLoadComesFirst() {
        ThirteenthDay x = Worlds.chain(2, 3, 5, 1, true, 0);
        x.railhead(0, 1, 6);
        x.unit(1, 2, 0, 0);
        check.is("later: START 20 and 22", 22, x.plan(0, 20));
        x.order(1);
        x.pass(22);
        check.is("later: the first one stands", 0, x.box(0, 20));
        x.pass(6);
        check.is("later: DONE", "1 foot 0/1 done", x.tell(1));
        check.is("later: one is unloaded", 1, x.ofUnit(0, 8));
        check.is("later: its PATH is not kept", NONE, x.path(0, 1, 0));
        check.is("later: that of the first one is", 20, x.path(0, 0, 0));
        check.is("later: the last PATH that is kept ARRIVES", 22, x.ofUnit(0, 10));
        check.is("later: forecast, with the first one LATE", 8, x.forecast(0, 1));
        x.pass(5);
        check.is("later: none is there", 0, x.ofUnit(0, 9));
        x.pass(1);
        check.is("later: one is there", 1, x.ofUnit(0, 9));
        check.is("later: one is at the SECTOR", 1, x.ofSector(0, 2));
        check.is("later: its WEIGHT", 4, x.ofSector(0, 3));
        x.pass(17);
        check.is("later: still one", 1, x.ofSector(0, 2));
        check.is("later: the first one is unloaded", 2, x.ofUnit(0, 8));
        x.pass(1);
        check.is("later: both", 2, x.ofSector(0, 2));
    }

    private static void sendSupplies(ThirteenthDay x, int many) {
        for (int k = 0; k < many; k++) {
            x.supply(0, x.many(0));
            if (k % 3 == 2 || k == many - 1) {
                x.pass(4);
            }
        }
    }

    /** 999 at most: 974, 975 and 976, and 24 more. */
    private static void storesUpTo999() {
        for (int eaters = 4; eaters <= 6; eaters++) {
            ThirteenthDay x = Worlds.camp();
            sendSupplies(x, 40);
            check.is("store: of 40 SUPPLIES", 980, x.ofSector(0, 7));
            Worlds.send(x, 1, eaters, 0);
            Worlds.passTo(x, 144);
            check.is("store: as the DAY begins", 980 - eaters, x.ofSector(0, 7));
            sendSupplies(x, 1);
            check.is("store: 24 more", eaters == 6 ? 998 : 999, x.ofSector(0, 7));
            sendSupplies(x, 1);
            check.is("store: full", 999, x.ofSector(0, 7));
        }
    }

    /** Each LOAD of KIND 4 brings 3, up to 999, and then it is eaten of. */
    private static void aFullStoreAndABakery() {
        for (int eaters = 0; eaters <= 1; eaters++) {
            ThirteenthDay x = Worlds.camp();
            sendSupplies(x, 42);
            check.is("bakery: full", 999, x.ofSector(0, 7));
            Worlds.send(x, 4, 2, 0);
            if (eaters == 1) {
                Worlds.send(x, 0, 1, 0);
            }
            Worlds.passTo(x, 144);
            check.is("bakery: full, then it is eaten of", 999 - eaters, x.ofSector(0, 7));
            x.pass(144);
            check.is("bakery: full again, then it is eaten of", 999 - eaters, x.ofSector(0, 7));
            check.is("bakery: not HUNGRY", 0, x.ofSector(0, 8));
        }
    }

    /** If the STORE has too little, it is 0 and HUNGRY: not with just enough. */
    private static void justEnoughAndOneTooLittle() {
        int[] loads = {4, 5, 6};
        int[][] stores = {{16, 12, 8, 4, 0, 0}, {15, 10, 5, 0, 0, 0}, {14, 8, 2, 0, 0, 0}};
        int[][] hungry = {{0, 0, 0, 0, 0, 1}, {0, 0, 0, 0, 1, 1}, {0, 0, 0, 1, 1, 1}};
        for (int k = 0; k < 3; k++) {
            ThirteenthDay x = Worlds.camp();
            Worlds.send(x, 0, loads[k], 0);
            for (int day = 1; day <= 6; day++) {
                Worlds.passTo(x, 144 * day);
                check.is("enough: STORE", stores[k][day - 1], x.ofSector(0, 7));
                check.is("enough: HUNGRY", hungry[k][day - 1], x.ofSector(0, 8));
            }
            x.supply(0, x.many(0));
            x.pass(143);
            check.is("enough: HUNGRY on that DAY", 1, x.ofSector(0, 8));
            check.is("enough: a SUPPLY", 24, x.ofSector(0, 7));
            x.pass(1);
            check.is("enough: HUNGRY no more", 0, x.ofSector(0, 8));
            check.is("enough: eaten of", 24 - loads[k], x.ofSector(0, 7));
        }
    }

    /** 7 eat and a bakery brings 3: with 4 it is just enough, with 0 it is not. */
    private static void bakeriesBringFirst() {
        ThirteenthDay x = Worlds.camp();
        Worlds.send(x, 4, 1, 0);
        Worlds.send(x, 0, 7, 0);
        int[] stores = {16, 12, 8, 4, 0, 0, 0};
        for (int day = 1; day <= 7; day++) {
            Worlds.passTo(x, 144 * day);
            check.is("bring: STORE", stores[day - 1], x.ofSector(0, 7));
            check.is("bring: HUNGRY", day >= 6 ? 1 : 0, x.ofSector(0, 8));
        }
    }

    /** A SUPPLY does not MARCH, is no LOAD of a UNIT and none at the SECTOR; the STORE has 24 more as it is unloaded. */
    private static void suppliesAreNoLoads() {
        ThirteenthDay x = Worlds.camp();
        check.is("supply: START is TICK", 0, x.supply(0, 0));
        check.is("supply: not DONE", 1, x.many(8));
        check.is("supply: a PATH", 1, x.many(7));
        check.is("supply: no WEIGHT to come", 0, x.forecast(0, 21));
        x.pass(3);
        check.is("supply: not yet", 20, x.ofSector(0, 7));
        check.is("supply: unloaded now", 2, x.ofTrain(0, 2));
        x.pass(1);
        check.is("supply: DONE", 3, x.ofTrain(0, 2));
        check.is("supply: STORE", 44, x.ofSector(0, 7));
        check.is("supply: not DONE no more", 0, x.many(8));
        check.is("supply: no PATH", 0, x.many(7));
        check.is("supply: the ROAD is free", 0, x.ofSector(0, 12));
        check.is("supply: no LOADS of UNITS unloaded", 0, x.many(9));
        Worlds.passTo(x, 288);
        check.is("supply: no LOADS at the SECTOR", 0, x.ofSector(0, 2));
        check.is("supply: nobody eats", 44, x.ofSector(0, 7));
    }

    /** 6 SUPPLIES that are not DONE; as one is DONE there can be another one. */
    private static void sixSupplies() {
        Twin t = new Twin(check, "six SUPPLIES");
        t.tell(x -> x.station(1, 5, 9, false));
        t.tell(x -> x.railhead(0, 0, 6));
        for (int k = 0; k < 6; k++) {
            int start = 10 + 3 * k;
            t.is("START", start, x -> x.supply(0, 10));
            t.is("PATHS", (start - 10) / 3 + 1, x -> x.many(7));
        }
        t.noTime("the seventh", x -> x.supply(0, 10));
        t.tell(x -> x.pass(12));
        t.is("not DONE: the first one is unloaded", 6, x -> x.many(8));
        t.noTime("the first one is unloaded, not DONE", x -> x.supply(0, 12));
        t.tell(x -> x.pass(1));
        t.is("one is DONE", 5, x -> x.many(8));
        t.is("another one", 28, x -> x.supply(0, 13));
        t.noTime("again the seventh", x -> x.supply(0, 13));
        t.tell(x -> x.pass(40));
        t.is("all DONE", 0, x -> x.many(8));
        t.is("STORE", 20 + 7 * 24, x -> x.ofSector(0, 7));
        t.liveOn();
    }

    /** Whatever is ahead: the sixth one goes, though the five that were sent ahead of it do not. */
    private static void theSixthGoesFirst() {
        ThirteenthDay x = Worlds.camp();
        for (int k = 0; k < 5; k++) {
            x.supply(0, 100);
        }
        check.is("sixth: START", 5, x.supply(1, 5));
        x.pass(5);
        check.is("sixth: it has gone", 1, x.many(5));
        check.is("sixth: to its SECTOR", 1, x.ofTrain(0, 1));
        x.pass(95);
        check.is("sixth: three of five have gone", 4, x.many(5));
        x.pass(3);
        check.is("sixth: all have gone", 6, x.many(5));
    }

    /** Six of one START: three to STATION 0 itself, the others by three LINES. */
    private static void sixAtOneTick() {
        for (int engines = 0; engines <= 7; engines++) {
            ThirteenthDay x = new ThirteenthDay();
            x.station(3, 5, engines, false);
            x.station(3, 5, 0, false);
            x.station(3, 5, 0, false);
            x.line(0, 1, 5, true, 2);
            x.line(0, 2, 5, true, 2);
            x.line(0, 1, 5, true, 2);
            for (int sector = 0; sector < 3; sector++) {
                x.railhead(sector, sector, 6);
            }
            int[] sectors = {1, 0, 2, 0, 0, 1};
            for (int k = 0; k < 6; k++) {
                if (k == 5) {
                    x.bridge(0);
                }
                check.is("one TICK: START", 40, x.supply(sectors[k], 40));
            }
            x.bridge(0);
            x.pass(39);
            check.is("one TICK: none has gone", 0, x.many(5));
            x.pass(1);
            check.is("one TICK: as many as there are ENGINES", Math.min(6, engines), x.many(5));
            for (int train = 0; train < x.many(5); train++) {
                check.is("one TICK: in the order in which they were sent", sectors[train], x.ofTrain(train, 1));
            }
        }
    }

    /** In the order in which they were sent, though the last one is sent as the first one is DONE already. */
    private static void sentBehindOneThatIsDone() {
        ThirteenthDay x = new ThirteenthDay();
        x.station(3, 5, 1, false);
        x.station(3, 5, 0, false);
        x.line(0, 1, 1, true, 0);
        x.railhead(0, 0, 6);
        x.railhead(1, 1, 6);
        x.railhead(2, 0, 6);
        check.is("behind: START of the first", 5, x.supply(0, 5));
        check.is("behind: START of the second", 50, x.supply(1, 50));
        x.pass(20);
        check.is("behind: the first one is DONE", 1, x.many(6));
        check.is("behind: START of the third", 50, x.supply(2, 50));
        x.pass(30);
        check.is("behind: there is one ENGINE", 2, x.many(5));
        check.is("behind: the second one has it", "1 supply 1 on 0.0", x.tell(1));
        x.pass(9);
        check.is("behind: DONE at 56, 4 TICKS from HOME", 2, x.many(5));
        x.pass(1);
        check.is("behind: with its ENGINE the third one goes", "2 supply 2 unloads at 0", x.tell(2));
    }

    private static void suppliesToEachSector() {
        ThirteenthDay x = Worlds.camp();
        x.railhead(2, 0, 6);
        for (int sector = 0; sector < 3; sector++) {
            check.is("each: START", 5, x.supply(sector, 5));
        }
        check.is("each: no RAMP is left at TICK 5", 8, x.supply(1, 5));
        x.pass(8);
        for (int sector = 0; sector < 3; sector++) {
            check.is("each: of no UNIT", NONE, x.ofTrain(sector, 0));
            check.is("each: its SECTOR", sector, x.ofTrain(sector, 1));
            check.is("each: its GOAL", 0, x.ofTrain(sector, 9));
            check.is("each: told", sector + " supply " + sector + " done", x.tell(sector));
            check.is("each: STORE", 44, x.ofSector(sector, 7));
        }
        x.pass(3);
        check.is("each: one more", 68, x.ofSector(1, 7));
    }

    /** From TICK on, and from 2880 on at most. */
    private static void supplyFromTickTo2880() {
        Twin t = new Twin(check, "supply from");
        t.tell(x -> x.station(1, 5, 9, false));
        t.tell(x -> x.railhead(0, 0, 6));
        t.tell(x -> x.pass(7));
        t.noWorth("TICK 6", x -> x.supply(0, 6));
        t.is("TICK 7", 7, x -> x.supply(0, 7));
        t.is("TICK 2880", 2880, x -> x.supply(0, 2880));
        t.noWorth("TICK 2881", x -> x.supply(0, 2881));
        t.is("again from TICK 2880 on", 2883, x -> x.supply(0, 2880));
        t.is("none has gone in the TICK in which it was sent", 0, x -> x.many(5));
        t.tell(x -> x.pass(1));
        t.is("it goes with the next one", 1, x -> x.many(5));
        t.liveOn();
    }

    /** Those that MARCH and come by then, up to 144 * that DAY. */
    private static void forecastOfWhatMarches() {
        for (int late = 0; late < 2; late++) {
            ThirteenthDay x = Worlds.camp();
            x.railhead(0, 0, 92 + late);
            x.unit(1, 1, 0, 0);
            x.plan(0, 49);
            x.order(1);
            x.pass(52);
            check.is("forecast: it MARCHES", 1, x.ofUnit(0, 8));
            check.is("forecast: it has no PATH", 0, x.many(7));
            check.is("forecast: DAY 0", 0, x.forecast(0, 0));
            check.is("forecast: it comes at " + (144 + late), late == 0 ? 4 : 0, x.forecast(0, 1));
            check.is("forecast: DAY 2", 4, x.forecast(0, 2));
            x.railhead(0, 0, 6);
            check.is("forecast: by the MARCH of the TICK at which it was unloaded", late == 0 ? 4 : 0,
                    x.forecast(0, 1));
            x.pass(92);
            check.is("forecast: at TICK 144", 1 - late, x.ofSector(0, 2));
            check.is("forecast: at TICK 144, WEIGHT as that DAY began", late == 0 ? 4 : 0, x.ofSector(0, 3));
            x.pass(1);
            check.is("forecast: it is there, on any DAY", 4, x.forecast(0, 0));
        }
    }

    /** ARRIVES, 1, unloading and MARCH together are no more than 144 * that DAY, for each KIND. */
    private static void forecastOfPaths() {
        int[] weights = {1, 4, 3, 6, 0};
        int[] unloading = {2, 3, 6, 9, 4};
        for (int kind = 0; kind <= 4; kind++) {
            for (int late = 0; late < 2; late++) {
                ThirteenthDay x = Worlds.chain(2, 3, 5, 1, true, 0);
                x.railhead(0, 1, 30);
                x.unit(kind, 1, 0, 0);
                check.is("forecast: without a PATH", 0, x.forecast(0, 21));
                int start = 288 - 30 - unloading[kind] - 1 - 2 + late;
                check.is("forecast: START", start, x.plan(0, start));
                check.is("forecast: DAY 1", 0, x.forecast(0, 1));
                check.is("forecast: DAY 2", late == 0 ? weights[kind] : 0, x.forecast(0, 2));
                check.is("forecast: DAY 3", weights[kind], x.forecast(0, 3));
                check.is("forecast: DAY 21", weights[kind], x.forecast(0, 21));
                x.order(1);
                Worlds.passTo(x, start + 3);
                check.is("forecast: unloaded now, still by its PATH", late == 0 ? weights[kind] : 0, x.forecast(0, 2));
                Worlds.passTo(x, 288);
                check.is("forecast: as that DAY began", late == 0 ? weights[kind] : 0, x.ofSector(0, 3));
            }
        }
    }

    /** DAY 21 is 3024 TICKS: PATHS may be so late, though no TICK is. */
    private static void forecastOfTheLastDay() {
        for (int march = 139; march <= 141; march++) {
            ThirteenthDay x = Worlds.camp();
            x.railhead(0, 0, march);
            x.unit(1, 2, 0, 0);
            check.is("last DAY: START of the last", 2881, x.plan(0, 2880));
            check.is("last DAY: 2880 or 2881, 1, 3 and MARCH", 4 * (141 - march), x.forecast(0, 21));
            check.is("last DAY: none on DAY 20", 0, x.forecast(0, 20));
            Worlds.passTo(x, 2880);
            check.is("last DAY: on DAY 20", 4 * (141 - march), x.forecast(0, 21));
            check.is("last DAY: none is there", 0, x.forecast(0, 20));
        }
    }

    /** Of LOADS that are there, that MARCH to it or have a PATH to it: a UNIT's SECTOR of now does not matter. */
    private static void forecastOfOtherSectors() {
        ThirteenthDay x = Worlds.camp();
        x.unit(1, 3, 0, 0);
        x.plan(0, 0);
        x.order(1);
        x.pass(12);
        check.is("other: one MARCHES, one has gone", 2, x.ofUnit(0, 7));
        x.aim(0, 0, 1);
        check.is("other: one LOAD changes", 1, x.change(0));
        check.is("other: its SECTOR is 1", 1, x.ofUnit(0, 3));
        check.is("other: to 0 as they went", 8, x.forecast(0, 1));
        check.is("other: to 1 by its PATH", 4, x.forecast(1, 1));
        check.is("other: to 2 nobody", 0, x.forecast(2, 21));
        x.pass(100);
        check.is("other: there are two", 2, x.ofSector(0, 2));
        check.is("other: there is one", 1, x.ofSector(1, 2));
        check.is("other: at their SECTOR are all", 3, x.ofUnit(0, 9));
    }

    private static void forecastOfNobody() {
        ThirteenthDay x = new ThirteenthDay();
        for (int sector = 0; sector < 3; sector++) {
            for (int day = 0; day <= 21; day++) {
                check.is("nobody: forecast", 0, x.forecast(sector, day));
                check.is("nobody: balance", 0, x.balance(sector, day));
            }
        }
    }
}
