/** Promises 26 to 33, and section 5 and 6: supplies, stores, marches, fights, the foe and the guess. */
public final class SectorsTest {
    private static final Check check = new Check("SectorsTest");

    public static void main(String[] args) {
        refusedSupplies();
        supplies();
        suppliesGoAsTheyWereSent();
        marches();
        storesAndBakeries();
        hungrySectors();
        fullStores();
        whatTheFoeBrings();
        refusedFoes();
        fights();
        wounded();
        lostSectors();
        groundHasAnEnd();
        factsOfSectors();
        forecasts();
        plansOfTheFoe();
        guesses();
        balances();
        check.end();
    }

    private static void refusedSupplies() {
        ThirteenthDay x = Worlds.camp();
        x.station(1, 1, 1, false);
        x.pass(3);
        check.noPlace("supply: sector -1", x, () -> x.supply(-1, 3));
        check.noPlace("supply: sector 3, tick wrong", x, () -> x.supply(3, 2));
        check.noWorth("supply: tick is gone by", x, () -> x.supply(0, 2));
        check.noWorth("supply: tick 2881, no RAILHEAD", x, () -> x.supply(2, 2881));
        check.noTime("supply: no RAILHEAD", x, () -> x.supply(2, 3));
        x.railhead(2, 1, 6);
        check.is("supply: without a way", -2, x.supply(2, 3));
        for (int k = 0; k < 6; k++) {
            check.is("supply: START of " + k, 2880 + 3 * (k / 3), x.supply(0, 2880));
        }
        check.is("supply: not DONE", 6, x.many(8));
        check.is("supply: PATHS", 6, x.many(7));
        check.noTime("supply: the seventh", x, () -> x.supply(0, 3));
        check.noWorth("supply: the seventh, and wrong", x, () -> x.supply(0, 2));
    }

    private static void supplies() {
        ThirteenthDay x = new ThirteenthDay();
        x.station(1, 1, 2, false);
        x.station(1, 1, 2, false);
        x.line(0, 1, 1, false, 0);
        x.railhead(2, 1, 6);
        check.is("supply: START", 4, x.supply(2, 4));
        check.is("supply: behind the first, a RAMP", 7, x.supply(2, 4));
        x.pass(3);
        check.is("supply: ahead of START", 0, x.many(5));
        x.pass(1);
        check.is("supply: READY at once", 1, x.many(5));
        check.is("supply: one ENGINE", 1, x.ofStation(0, 2));
        int[] due = {-1, 2, 1, 0, 0, 2, 0, 0, 1, 1};
        for (int what = 0; what <= 9; what++) {
            check.is("supply: ofTrain " + what, due[what], x.ofTrain(0, what));
        }
        x.pass(3);
        check.is("supply: it takes 3 TICKS", 3, x.ofTrain(0, 5));
        check.is("supply: STORE ahead", 20, x.ofSector(2, 7));
        x.pass(3);
        check.is("supply: DONE", 3, x.ofTrain(0, 2));
        check.is("supply: STORE", 44, x.ofSector(2, 7));
        check.is("supply: another STORE", 20, x.ofSector(0, 7));
        check.is("supply: one is not DONE", 1, x.many(8));
        check.is("supply: no LOAD of a UNIT", 0, x.many(9));
        check.is("supply: the ROAD is free", 0, x.ofSector(2, 12));
    }

    private static void suppliesGoAsTheyWereSent() {
        ThirteenthDay x = new ThirteenthDay();
        x.station(3, 5, 1, false);
        x.railhead(0, 0, 6);
        x.railhead(1, 0, 6);
        x.railhead(2, 0, 6);
        x.supply(2, 8);
        x.supply(1, 5);
        x.supply(0, 7);
        x.pass(5);
        check.is("sent: whatever is ahead", 1, x.ofTrain(0, 1));
        x.pass(3);
        check.is("sent: the ENGINE is back behind those that go", 1, x.many(5));
        Worlds.passTo(x, 40);
        check.is("sent: the first of two", 2, x.ofTrain(1, 1));
        check.is("sent: the last", 0, x.ofTrain(2, 1));
    }

    private static void marches() {
        ThirteenthDay x = Worlds.camp();
        Worlds.send(x, 0, 1, 0);
        x.unit(0, 1, 0, 0);
        x.plan(1, 0);
        x.unit(0, 1, 0, 1);
        x.plan(2, 0);
        x.order(6);
        x.pass(7);
        check.is("march: the ROAD is free", 0, x.ofSector(0, 12));
        x.pass(1);
        check.is("march: unloaded", 1, x.ofUnit(0, 8));
        check.is("march: the ROAD", 12, x.ofSector(0, 12));
        x.pass(5);
        check.is("march: not there", 0, x.ofUnit(0, 9));
        x.pass(1);
        check.is("march: there", 1, x.ofUnit(0, 9));
        check.is("march: the second one begins as it is unloaded", 18, x.ofSector(0, 12));
        Worlds.passTo(x, 19);
        check.is("march: one LOAD there", 1, x.ofSector(0, 2));
        Worlds.passTo(x, 20);
        check.is("march: two LOADS there", 2, x.ofSector(0, 2));
        check.is("march: another SECTOR has its own ROAD", 24, x.ofSector(1, 12));
        ThirteenthDay y = Worlds.camp();
        for (int unit = 0; unit < 3; unit++) {
            y.unit(0, 1, 0, 0);
            y.plan(unit, 0);
        }
        y.order(7);
        y.pass(5);
        y.foul(0, 1);
        y.drop(0);
        y.drop(1);
        y.drop(2);
        y.pass(25);
        for (int unit = 2; unit >= 0; unit--) {
            y.plan(unit, 30);
        }
        y.pass(3);
        check.is("road: three unloaded at one TICK", 3, y.many(9));
        check.is("road: each 4 TICKS one begins", 33 + 12, y.ofSector(0, 12));
        y.railhead(0, 0, 100);
        int[] comes = {39, 43, 47};
        for (int unit = 0; unit < 3; unit++) {
            Worlds.passTo(y, comes[unit] - 1);
            check.is("road: not there, " + unit, 0, y.ofUnit(unit, 9));
            y.pass(1);
            check.is("road: there, " + unit, 1, y.ofUnit(unit, 9));
        }
    }

    private static void storesAndBakeries() {
        ThirteenthDay x = Worlds.camp();
        Worlds.send(x, 1, 5, 0);
        Worlds.send(x, 4, 2, 0);
        Worlds.send(x, 4, 1, 1);
        Worlds.passTo(x, 143);
        check.is("store: eight LOADS are there", 7, x.ofSector(0, 2));
        check.is("store: WEIGHT without bakeries", 20, x.ofSector(0, 3));
        check.is("store: ahead of the DAY", 20, x.ofSector(0, 7));
        x.pass(1);
        check.is("store: 2 bring 3, 5 eat 1", 21, x.ofSector(0, 7));
        check.is("store: of a bakery alone", 23, x.ofSector(1, 7));
        check.is("store: of nobody", 20, x.ofSector(2, 7));
        check.is("store: not HUNGRY", 0, x.ofSector(0, 8));
    }

    private static void hungrySectors() {
        ThirteenthDay x = Worlds.camp();
        Worlds.send(x, 1, 8, 0);
        Worlds.send(x, 3, 1, 0);
        x.foe(0, 0, 3, 20);
        x.foe(0, 0, 4, 16);
        Worlds.passTo(x, 288);
        check.is("hungry: 20 less 9 less 9", 2, x.ofSector(0, 7));
        check.is("hungry: not yet", 0, x.ofSector(0, 8));
        check.is("hungry: GROUND against nobody", 2, x.ofSector(0, 6));
        Worlds.passTo(x, 432);
        check.is("hungry: STORE has too little", 0, x.ofSector(0, 7));
        check.is("hungry: now", 1, x.ofSector(0, 8));
        check.is("hungry: WEIGHT stays", 38, x.ofSector(0, 3));
        check.is("hungry: half of it against 20", 1, x.ofSector(0, 6));
        check.is("hungry: FOE loses 19 / 8", 18, x.ofSector(0, 4));
        check.is("hungry: WOUNDED 20 / 8", 2, x.ofSector(0, 9));
        x.supply(0, 432);
        Worlds.passTo(x, 576);
        check.is("hungry: no more", 0, x.ofSector(0, 8));
        check.is("hungry: STORE", 15, x.ofSector(0, 7));
        check.is("hungry: all of it against 34", 2, x.ofSector(0, 6));
        check.is("hungry: FOE loses 38 / 8", 30, x.ofSector(0, 4));
        check.is("hungry: WOUNDED, 2 went home with the SUPPLY", 4, x.ofSector(0, 9));
        check.is("hungry: taken home", 2, x.ofSector(0, 10));
        ThirteenthDay y = Worlds.camp();
        Worlds.send(y, 1, 5, 0);
        Worlds.passTo(y, 576);
        check.is("hungry: just enough", 0, y.ofSector(0, 7));
        check.is("hungry: not with just enough", 0, y.ofSector(0, 8));
        y.pass(144);
        check.is("hungry: with nothing", 1, y.ofSector(0, 8));
    }

    private static void fullStores() {
        ThirteenthDay x = Worlds.camp();
        for (int k = 0; k < 48; k++) {
            x.supply(0, x.many(0));
            if (k % 3 == 2) {
                x.pass(4);
            }
        }
        check.is("full: 41 SUPPLIES are 984 more", 999, x.ofSector(0, 7));
        check.is("full: trains", 48, x.many(5));
        Worlds.send(x, 4, 1, 0);
        Worlds.send(x, 1, 1, 0);
        Worlds.passTo(x, 144);
        check.is("full: 3 more are 999, then one eats", 998, x.ofSector(0, 7));
    }

    private static void whatTheFoeBrings() {
        ThirteenthDay x = Worlds.camp();
        check.is("foe: how many of it", 1, x.foe(0, 0, 1, 10));
        check.is("foe: two to one SECTOR", 2, x.foe(0, 0, 1, 5));
        check.is("foe: another SECTOR", 3, x.foe(0, 1, 2, 60));
        check.is("foe: another PLAN", 1, x.foe(2, 0, 2, 7));
        check.is("foe: all that are told", 4, x.many(12));
        Worlds.passTo(x, 143);
        check.is("foe: ahead of its DAY", 0, x.ofSector(0, 4));
        x.pass(1);
        check.is("foe: both", 15, x.ofSector(0, 4));
        check.is("foe: nobody SEEN", 0, x.ofSector(0, 5));
        check.is("real: before", 0, x.real(2));
        x.pass(144);
        check.is("foe: of the PLAN that is carried out", 22, x.ofSector(0, 4));
        check.is("foe: not of the other one", 0, x.ofSector(1, 4));
        check.is("foe: nothing SEEN yet, DAY 2", 0, x.ofSector(0, 5));
        x.pass(143);
        check.is("foe: nothing SEEN, end of DAY 2", 0, x.ofSector(0, 5));
        x.pass(1);
        check.is("foe: DAY 1 is SEEN on DAY 3", 15, x.ofSector(0, 5));
        x.pass(144);
        check.is("foe: DAY 2 is SEEN on DAY 4", 22, x.ofSector(0, 5));
    }

    private static void refusedFoes() {
        ThirteenthDay x = Worlds.camp();
        Worlds.passTo(x, 288);
        check.noPlace("foe: plan -1", x, () -> x.foe(-1, 0, 3, 1));
        check.noPlace("foe: plan 3", x, () -> x.foe(3, 0, 3, 1));
        check.noPlace("foe: sector -1", x, () -> x.foe(0, -1, 3, 1));
        check.noPlace("foe: sector 3, all wrong", x, () -> x.foe(0, 3, 2, 0));
        check.noWorth("foe: today", x, () -> x.foe(0, 0, 2, 1));
        check.noWorth("foe: day 21", x, () -> x.foe(0, 0, 21, 1));
        check.noWorth("foe: strength 0", x, () -> x.foe(0, 0, 3, 0));
        check.noWorth("foe: strength 61", x, () -> x.foe(0, 0, 3, 61));
        for (int k = 1; k <= 6; k++) {
            check.is("foe: told " + k, k, x.foe(1, 0, k == 1 ? 20 : 3, k == 2 ? 60 : 1));
        }
        check.noTime("foe: the seventh of it", x, () -> x.foe(1, 0, 3, 1));
        check.noWorth("foe: the seventh, and wrong", x, () -> x.foe(1, 0, 2, 1));
        check.is("foe: another PLAN", 1, x.foe(2, 0, 3, 1));
        check.noPlace("real: -1", x, () -> x.real(-1));
        check.noPlace("real: 3", x, () -> x.real(3));
        check.noPlace("rumour: -1", x, () -> x.rumour(-1));
        check.noPlace("rumour: 3", x, () -> x.rumour(3));
        x.real(1);
        Worlds.passTo(x, 2880);
        check.is("foe: on the last DAY", 20, x.many(1));
        check.is("foe: all of it came, but to a SECTOR that is LOST", 64, x.ofSector(0, 4));
        check.is("foe: SEEN but the last DAY", 64, x.ofSector(0, 5));
        check.noWorth("foe: no DAY is left", x, () -> x.foe(2, 0, 20, 1));
    }

    private static void fights() {
        ThirteenthDay x = Worlds.camp();
        Worlds.send(x, 1, 4, 0);
        x.foe(0, 0, 1, 16);
        x.foe(0, 0, 2, 2);
        x.foe(0, 0, 3, 5);
        Worlds.passTo(x, 144);
        check.is("fight: OWN is FOE", 0, x.ofSector(0, 6));
        check.is("fight: FOE loses 2", 14, x.ofSector(0, 4));
        check.is("fight: 2 WOUNDED", 2, x.ofSector(0, 9));
        x.pass(144);
        check.is("fight: 16 against 16 again", 0, x.ofSector(0, 6));
        check.is("fight: 14 again", 14, x.ofSector(0, 4));
        x.pass(144);
        check.is("fight: 16 against 19", -1, x.ofSector(0, 6));
        check.is("fight: FOE", 17, x.ofSector(0, 4));
        x.pass(144);
        check.is("fight: 16 against 17", -2, x.ofSector(0, 6));
        x.pass(144);
        check.is("fight: 16 against 15", -1, x.ofSector(0, 6));
        check.is("fight: FOE at last", 13, x.ofSector(0, 4));
        check.is("fight: WOUNDED at last", 9, x.ofSector(0, 9));
    }

    private static void wounded() {
        ThirteenthDay x = Worlds.camp();
        Worlds.send(x, 0, 1, 0);
        x.foe(0, 0, 1, 60);
        Worlds.passTo(x, 144);
        check.is("wounded: OWN at most", 1, x.ofSector(0, 9));
        check.is("wounded: OWN / 8 is 0", 60, x.ofSector(0, 4));
        ThirteenthDay y = Worlds.camp();
        Worlds.send(y, 3, 8, 0);
        Worlds.send(y, 3, 2, 0);
        for (int k = 0; k < 3; k++) {
            y.foe(0, 0, 1, 60);
        }
        Worlds.passTo(y, 144);
        check.is("wounded: 180 / 8", 22, y.ofSector(0, 9));
        check.is("wounded: FOE loses 60 / 8", 173, y.ofSector(0, 4));
        y.supply(1, 144);
        y.pass(4);
        check.is("wounded: a TRAIN for another SECTOR takes none", 22, y.ofSector(0, 9));
        y.supply(0, y.many(0));
        y.pass(3);
        check.is("wounded: not ahead of DONE", 22, y.ofSector(0, 9));
        y.pass(1);
        check.is("wounded: 6 less", 16, y.ofSector(0, 9));
        check.is("wounded: 6 went home", 6, y.ofSector(0, 10));
        int unit = y.unit(0, 1, 0, 0);
        y.plan(unit, y.many(0));
        y.order(1 << unit);
        y.pass(12);
        check.is("wounded: with the TRAIN of a LOAD", 12, y.ofSector(0, 10));
        for (int k = 0; k < 2; k++) {
            y.supply(0, y.many(0));
            y.pass(5);
        }
        check.is("wounded: none is left", 0, y.ofSector(0, 9));
        check.is("wounded: all went home", 22, y.ofSector(0, 10));
    }

    private static void lostSectors() {
        ThirteenthDay x = Worlds.camp();
        Worlds.send(x, 0, 1, 0);
        x.foe(0, 0, 1, 20);
        x.foe(0, 0, 6, 9);
        x.foe(1, 0, 1, 20);
        x.foe(1, 0, 6, 9);
        Worlds.passTo(x, 576);
        check.is("lost: GROUND", -4, x.ofSector(0, 6));
        check.is("lost: not yet", 0, x.ofSector(0, 11));
        x.pass(144);
        check.is("lost: GROUND of -5", -5, x.ofSector(0, 6));
        check.is("lost: LOST", 1, x.ofSector(0, 11));
        check.is("lost: STORE of this DAY", 15, x.ofSector(0, 7));
        check.is("lost: WOUNDED", 5, x.ofSector(0, 9));
        x.pass(144);
        check.is("lost: FOE stays", 20, x.ofSector(0, 4));
        check.is("lost: STORE stays", 15, x.ofSector(0, 7));
        check.is("lost: HUNGRY stays", 0, x.ofSector(0, 8));
        check.is("lost: no more WOUNDED", 5, x.ofSector(0, 9));
        Worlds.passTo(x, 1152);
        check.is("lost: what would come is SEEN", 29, x.ofSector(0, 5));
        check.is("lost: and is POSSIBLE", 1, x.rumour(1));
        check.is("lost: the GUESS", 1, x.guess());
        check.is("lost: another SECTOR is not", 0, x.ofSector(1, 11));
        x.supply(0, x.many(0));
        x.pass(5);
        check.is("lost: a SUPPLY comes though", 39, x.ofSector(0, 7));
        check.is("lost: and takes WOUNDED home", 5, x.ofSector(0, 10));
    }

    private static void groundHasAnEnd() {
        ThirteenthDay x = Worlds.camp();
        Worlds.send(x, 1, 1, 0);
        Worlds.passTo(x, 720);
        check.is("ground: 5 DAYS against nobody", 5, x.ofSector(0, 6));
        x.pass(144);
        check.is("ground: 5 at most", 5, x.ofSector(0, 6));
        check.is("ground: of nobody against nobody", 0, x.ofSector(1, 6));
    }

    private static void factsOfSectors() {
        ThirteenthDay x = Worlds.camp();
        check.noPlace("ofSector: -1", x, () -> x.ofSector(-1, 0));
        check.noPlace("ofSector: 3, what wrong", x, () -> x.ofSector(3, 13));
        check.noWorth("ofSector: what -1", x, () -> x.ofSector(0, -1));
        check.noWorth("ofSector: what 13", x, () -> x.ofSector(0, 13));
        int[] weights = {1, 4, 3, 6, 0};
        int sum = 0;
        for (int kind = 0; kind < 5; kind++) {
            Worlds.send(x, kind, 1, 1);
        }
        Worlds.passTo(x, 100);
        for (int kind = 0; kind < 5; kind++) {
            sum += weights[kind];
        }
        check.is("ofSector: LOADS", 5, x.ofSector(1, 2));
        check.is("ofSector: WEIGHT", sum, x.ofSector(1, 3));
        check.is("ofSector: none at another one", 0, x.ofSector(0, 2));
    }

    private static void forecasts() {
        ThirteenthDay x = new ThirteenthDay();
        x.station(3, 3, 9, false);
        x.station(3, 3, 9, false);
        x.line(0, 1, 1, true, 0);
        x.railhead(0, 1, 40);
        check.noPlace("forecast: sector -1", x, () -> x.forecast(-1, 0));
        check.noPlace("forecast: sector 3, day wrong", x, () -> x.forecast(3, 22));
        check.noWorth("forecast: day -1", x, () -> x.forecast(0, -1));
        check.noWorth("forecast: day 22", x, () -> x.forecast(0, 22));
        check.is("forecast: nobody, the last DAY", 0, x.forecast(0, 21));
        x.unit(1, 2, 0, 0);
        check.is("forecast: without PATHS", 0, x.forecast(0, 21));
        x.plan(0, 98);
        check.is("forecast: ARRIVES 100, 1, 3 and 40 are 144", 4, x.forecast(0, 1));
        check.is("forecast: both on DAY 2", 8, x.forecast(0, 2));
        check.is("forecast: none on DAY 0", 0, x.forecast(0, 0));
        check.is("forecast: of another SECTOR", 0, x.forecast(1, 2));
        x.railhead(1, 1, 40);
        x.order(1);
        x.pass(99);
        check.is("forecast: on its way", 4, x.forecast(0, 1));
        x.box(0, 3);
        x.pass(7);
        check.is("forecast: late, but by its PATH", 4, x.forecast(0, 1));
        x.pass(1);
        check.is("forecast: it is unloaded", 1, x.ofUnit(0, 8));
        check.is("forecast: as it MARCHES it comes too late", 0, x.forecast(0, 1));
        check.is("forecast: but by DAY 2", 8, x.forecast(0, 2));
        x.pass(60);
        check.is("forecast: of LOADS that are there, on any DAY", 8, x.forecast(0, 0));
        ThirteenthDay y = Worlds.camp();
        y.unit(3, 1, 0, 0);
        y.plan(0, 100);
        y.order(1);
        check.is("forecast: MARCH of now", 6, y.forecast(0, 1));
        y.pass(1);
        y.drop(0);
        y.railhead(0, 0, 34);
        y.plan(0, 100);
        check.is("forecast: 100, 1, 9 and 34 are 144", 6, y.forecast(0, 1));
        y.drop(0);
        y.railhead(0, 0, 35);
        y.plan(0, 100);
        check.is("forecast: one TICK too late", 0, y.forecast(0, 1));
        y.pass(109);
        check.is("forecast: it MARCHES", 1, y.many(9));
        check.is("forecast: as it MARCHES it comes by 144", 6, y.forecast(0, 1));
    }

    private static void plansOfTheFoe() {
        ThirteenthDay x = Worlds.camp();
        check.is("real: at first 0", 0, x.real(1));
        check.is("real: then 1", 1, x.real(1));
        check.is("real: again", 1, x.real(0));
        check.is("rumour: the first", 1, x.rumour(2));
        check.is("rumour: the second", 2, x.rumour(2));
        check.is("rumour: of another one", 1, x.rumour(0));
    }

    private static void guesses() {
        ThirteenthDay x = Worlds.camp();
        check.is("guess: the smallest one", 0, x.guess());
        x.rumour(2);
        check.is("guess: most RUMOURS", 2, x.guess());
        x.rumour(1);
        check.is("guess: of several the smallest one", 1, x.guess());
        x.foe(0, 0, 1, 10);
        x.foe(1, 0, 1, 4);
        x.foe(1, 0, 1, 6);
        x.foe(2, 1, 1, 10);
        x.foe(1, 2, 3, 10);
        Worlds.passTo(x, 431);
        check.is("guess: nothing SEEN", 1, x.guess());
        x.rumour(2);
        check.is("guess: most RUMOURS, nothing SEEN", 2, x.guess());
        x.pass(1);
        check.is("guess: 2 is not POSSIBLE", 1, x.guess());
        Worlds.passTo(x, 719);
        check.is("guess: DAY 3 is not SEEN", 1, x.guess());
        x.pass(1);
        check.is("guess: DAY 3 is SEEN, nobody came", 0, x.guess());
        x.real(2);
        x.foe(2, 0, 6, 1);
        Worlds.passTo(x, 1152);
        check.is("guess: none is POSSIBLE", -1, x.guess());
        check.is("balance: NONE has nothing", 0, x.balance(0, 21));
    }

    private static void balances() {
        ThirteenthDay x = Worlds.camp();
        check.noPlace("balance: sector -1", x, () -> x.balance(-1, 0));
        check.noPlace("balance: sector 3, day wrong", x, () -> x.balance(3, 22));
        check.noWorth("balance: day -1", x, () -> x.balance(0, -1));
        check.noWorth("balance: day 22", x, () -> x.balance(0, 22));
        Worlds.send(x, 1, 2, 0);
        x.foe(0, 0, 2, 10);
        x.foe(0, 0, 4, 3);
        x.foe(0, 1, 4, 30);
        x.foe(1, 0, 1, 1);
        check.is("balance: DAY 1", 8, x.balance(0, 1));
        check.is("balance: DAY 2, with it", -2, x.balance(0, 2));
        check.is("balance: DAY 3", -2, x.balance(0, 3));
        check.is("balance: DAY 21", -5, x.balance(0, 21));
        check.is("balance: another SECTOR", -30, x.balance(1, 21));
        x.rumour(1);
        check.is("balance: of another GUESS", 7, x.balance(0, 21));
    }
}
