/**
 * Every "Throws" of the document in the midst of a war: the exception that is due on both sides of each bound, the one
 * that is named first where several apply, and that nothing is changed by it (see Twin).
 */
public final class RefusedCallsTest {
    private static final Check check = new Check("RefusedCallsTest");
    private static final int NONE = -1;

    public static void main(String[] args) {
        stations();
        lines();
        lands();
        bridgesAndWays();
        factsOfLand();
        units();
        railheads();
        orders();
        stops();
        factsOfUnits();
        plans();
        dropsAndPaths();
        whatCouldBe();
        aims();
        changes();
        variants();
        boxesAndFouls();
        factsOfTrains();
        supplies();
        foes();
        factsOfSectors();
        theFoesPlans();
        time();
        onANewObject();
        check.end();
    }

    /** Two wars at TICK 40, see Worlds.busy. */
    private static Twin war(String name) {
        Twin t = new Twin(check, name);
        t.is("TICK", 40, Worlds::busy);
        return t;
    }

    private static int[] outside(int least, int most) {
        return new int[] {Integer.MIN_VALUE, least - 1, most + 1, Integer.MAX_VALUE};
    }

    private static void stations() {
        Twin t = war("station");
        refuseWrongStations(t);
        t.is("the ninth", 8, x -> x.station(1, 0, 0, false));
        t.is("the tenth", 9, x -> x.station(3, 5, 9, true));
        t.noTime("the eleventh", x -> x.station(1, 0, 0, false));
        refuseWrongStations(t);
        t.liveOn();
    }

    private static void refuseWrongStations(Twin t) {
        for (int bad : outside(1, 3)) {
            t.noWorth("ramps " + bad, x -> x.station(bad, 0, 0, true));
        }
        for (int bad : outside(0, 5)) {
            t.noWorth("sidings " + bad, x -> x.station(1, bad, 0, true));
        }
        for (int bad : outside(0, 9)) {
            t.noWorth("engines " + bad, x -> x.station(1, 0, bad, true));
        }
    }

    private static void lines() {
        Twin t = war("line");
        refuseWrongLines(t);
        for (int k = 10; k < 14; k++) {
            t.is("number " + k, k, x -> x.line(7, 0, 5, false, 2));
        }
        t.noTime("the fifteenth", x -> x.line(0, 1, 1, true, 0));
        refuseWrongLines(t);
        t.liveOn();
    }

    private static void refuseWrongLines(Twin t) {
        for (int bad : outside(0, 7)) {
            t.noPlace("near " + bad, x -> x.line(bad, 1, 1, true, 0));
            t.noPlace("far " + bad, x -> x.line(0, bad, 1, true, 0));
            t.noPlace("both the same, but no STATION: " + bad, x -> x.line(bad, bad, 1, true, 0));
        }
        t.noPlace("far 8, blocks and grade wrong", x -> x.line(0, 8, 0, true, 3));
        t.noWorth("both the same", x -> x.line(7, 7, 1, true, 0));
        for (int bad : outside(1, 5)) {
            t.noWorth("blocks " + bad, x -> x.line(0, 1, bad, false, 0));
        }
        for (int bad : outside(0, 2)) {
            t.noWorth("grade " + bad, x -> x.line(0, 1, 1, true, bad));
        }
    }

    private static void lands() {
        Twin t = war("land");
        t.noTime("there are STATIONS", x -> x.land(1, 0));
        refuseWrongLands(t);
        t.liveOn();
        Twin none = new Twin(check, "land, ahead of all");
        refuseWrongLands(none);
        none.is("LINES", 8, x -> x.land(1, 2));
        none.noTime("twice", x -> x.land(5, 0));
        none.liveOn();
        Twin one = new Twin(check, "land, with one STATION");
        one.tell(x -> x.station(1, 0, 0, false));
        one.noTime("there is a STATION", x -> x.land(1, 0));
        refuseWrongLands(one);
        one.liveOn();
    }

    private static void refuseWrongLands(Twin t) {
        for (int bad : outside(1, 5)) {
            t.noWorth("blocks " + bad, x -> x.land(bad, 0));
        }
        for (int bad : outside(0, 2)) {
            t.noWorth("grade " + bad, x -> x.land(1, bad));
        }
    }

    private static void bridgesAndWays() {
        Twin t = war("bridge, way");
        for (int bad : outside(0, 9)) {
            t.noPlace("bridge " + bad, x -> x.bridge(bad));
        }
        for (int bad : outside(0, 7)) {
            t.noPlace("from " + bad, x -> x.way(bad, 0, 0));
            t.noPlace("to " + bad, x -> x.way(0, bad, 0));
            t.noPlace("from " + bad + ", what wrong", x -> x.way(bad, 0, 3));
            t.noPlace("to " + bad + ", what wrong", x -> x.way(0, bad, -1));
        }
        for (int bad : outside(0, 2)) {
            t.noWorth("what " + bad, x -> x.way(0, 5, bad));
            t.noWorth("what " + bad + ", from here to here", x -> x.way(7, 7, bad));
            t.noWorth("what " + bad + ", without a way", x -> x.way(0, 7, bad));
        }
        t.liveOn();
    }

    private static void factsOfLand() {
        Twin t = war("ofStation, ofLine, planned");
        for (int bad : outside(0, 7)) {
            t.noPlace("ofStation " + bad, x -> x.ofStation(bad, 0));
            t.noPlace("ofStation " + bad + ", what wrong", x -> x.ofStation(bad, 6));
        }
        for (int bad : outside(0, 5)) {
            t.noWorth("ofStation, what " + bad, x -> x.ofStation(7, bad));
        }
        for (int bad : outside(0, 9)) {
            t.noPlace("ofLine " + bad, x -> x.ofLine(bad, 0));
            t.noPlace("ofLine " + bad + ", what wrong", x -> x.ofLine(bad, 7));
            t.noPlace("planned " + bad, x -> x.planned(bad, 40));
        }
        for (int bad : outside(0, 6)) {
            t.noWorth("ofLine, what " + bad, x -> x.ofLine(9, bad));
        }
        t.liveOn();
    }

    private static void units() {
        Twin t = war("unit");
        refuseWrongUnits(t);
        t.is("the sixth", 5, x -> x.unit(0, 8, 7, 2));
        t.noTime("the seventh", x -> x.unit(0, 1, 0, 0));
        refuseWrongUnits(t);
        t.liveOn();
    }

    private static void refuseWrongUnits(Twin t) {
        for (int bad : outside(0, 7)) {
            t.noPlace("home " + bad, x -> x.unit(0, 1, bad, 0));
            t.noPlace("home " + bad + ", kind and loads wrong", x -> x.unit(5, 0, bad, 0));
        }
        for (int bad : outside(0, 2)) {
            t.noPlace("sector " + bad, x -> x.unit(0, 1, 0, bad));
            t.noPlace("sector " + bad + ", kind and loads wrong", x -> x.unit(-1, 9, 0, bad));
        }
        for (int bad : outside(0, 4)) {
            t.noWorth("kind " + bad, x -> x.unit(bad, 1, 0, 0));
        }
        for (int bad : outside(1, 8)) {
            t.noWorth("loads " + bad, x -> x.unit(0, bad, 0, 0));
        }
    }

    private static void railheads() {
        Twin t = war("railhead");
        for (int bad : outside(0, 2)) {
            t.noPlace("sector " + bad, x -> x.railhead(bad, 0, 24));
            t.noPlace("sector " + bad + ", march wrong", x -> x.railhead(bad, 0, 145));
        }
        for (int bad : outside(0, 7)) {
            t.noPlace("station " + bad, x -> x.railhead(2, bad, 24));
            t.noPlace("station " + bad + ", march wrong, with PATHS", x -> x.railhead(0, bad, 5));
        }
        for (int bad : outside(6, 144)) {
            t.noWorth("march " + bad, x -> x.railhead(2, 0, bad));
            t.noWorth("march " + bad + ", with PATHS", x -> x.railhead(0, 0, bad));
        }
        t.noTime("with PATHS and TRAINS", x -> x.railhead(0, 4, 12));
        t.noTime("with PATHS and TRAINS of another SECTOR", x -> x.railhead(1, 0, 24));
        t.is("the first of SECTOR 2", NONE, x -> x.railhead(2, 7, 144));
        t.is("another one of SECTOR 2", 7, x -> x.railhead(2, 0, 6));
        t.liveOn();
    }

    private static void orders() {
        Twin t = war("order");
        int[] bad = {Integer.MIN_VALUE, -1, 32, 33, 63, 1 << 30, Integer.MAX_VALUE, Integer.MIN_VALUE + 8};
        for (int set : bad) {
            t.noWorth("set " + set, x -> x.order(set));
        }
        t.is("nobody", 0, x -> x.order(0));
        t.is("all: but one is not at PEACE any more", 1, x -> x.order(31));
        t.liveOn();
        Twin none = new Twin(check, "order, without a STATION");
        none.noTime("nobody", x -> x.order(0));
        none.noWorth("-1", x -> x.order(-1));
        none.noWorth("a UNIT that there is not", x -> x.order(1));
        none.liveOn();
    }

    private static void stops() {
        Twin t = war("stop");
        for (int bad : outside(0, 4)) {
            t.noPlace("unit " + bad, x -> x.stop(bad));
        }
        t.noTime("at PEACE", x -> x.stop(3));
        t.noTime("STOPPED", x -> x.stop(1));
        t.is("one that rolls", 43, x -> x.stop(2));
        t.noTime("a wire is on its way", x -> x.stop(2));
        t.tell(x -> x.order(8));
        t.is("one that is ORDERED, two LINES away", 46, x -> x.stop(3));
        t.noTime("a wire to STOP it, and one to ORDER it", x -> x.stop(3));
        t.liveOn();
    }

    private static void factsOfUnits() {
        Twin t = war("ofUnit");
        for (int bad : outside(0, 4)) {
            t.noPlace("unit " + bad, x -> x.ofUnit(bad, 0));
            t.noPlace("unit " + bad + ", what wrong", x -> x.ofUnit(bad, 13));
        }
        for (int bad : outside(0, 12)) {
            t.noWorth("what " + bad, x -> x.ofUnit(4, bad));
        }
        t.liveOn();
    }

    private static void plans() {
        Twin t = war("plan");
        for (int bad : outside(0, 4)) {
            t.noPlace("unit " + bad, x -> x.plan(bad, 40));
            t.noPlace("unit " + bad + ", tick wrong", x -> x.plan(bad, 39));
        }
        for (int bad : outside(40, 2880)) {
            t.noWorth("tick " + bad, x -> x.plan(4, bad));
            t.noWorth("tick " + bad + ", with PATHS", x -> x.plan(2, bad));
            t.noWorth("tick " + bad + ", STOPPED", x -> x.plan(1, bad));
            t.noWorth("tick " + bad + ", all have gone", x -> x.plan(0, bad));
        }
        t.noTime("no RAILHEAD", x -> x.plan(4, 40));
        t.noTime("with PATHS", x -> x.plan(2, 40));
        t.noTime("with PATHS, at PEACE", x -> x.plan(3, 2880));
        t.noTime("STOPPED", x -> x.plan(1, 40));
        t.noTime("all have gone", x -> x.plan(0, 40));
        t.liveOn();
    }

    private static void dropsAndPaths() {
        Twin t = war("drop, path");
        for (int bad : outside(0, 4)) {
            t.noPlace("drop " + bad, x -> x.drop(bad));
            t.noPlace("path of unit " + bad, x -> x.path(bad, 0, 0));
            t.noPlace("path of unit " + bad + ", what wrong", x -> x.path(bad, 0, 3));
        }
        for (int bad : outside(0, 2)) {
            t.noPlace("load " + bad + " of three", x -> x.path(0, bad, 0));
            t.noPlace("load " + bad + " of three, what wrong", x -> x.path(0, bad, -1));
            t.noWorth("what " + bad, x -> x.path(2, 7, bad));
            t.noWorth("what " + bad + ", without a PATH", x -> x.path(4, 1, bad));
        }
        t.noPlace("load 8 of eight", x -> x.path(2, 8, 0));
        t.noPlace("load 1 of one", x -> x.path(3, 1, 0));
        t.liveOn();
    }

    private static void whatCouldBe() {
        Twin t = war("could");
        for (int bad : outside(0, 4)) {
            t.noPlace("unit " + bad, x -> x.could(bad, 40));
            t.noPlace("unit " + bad + ", tick wrong", x -> x.could(bad, 2881));
        }
        for (int bad : outside(40, 2880)) {
            t.noWorth("tick " + bad, x -> x.could(2, bad));
            t.noWorth("tick " + bad + ", no RAILHEAD", x -> x.could(4, bad));
            t.noWorth("tick " + bad + ", STOPPED", x -> x.could(1, bad));
            t.noWorth("tick " + bad + ", all have gone", x -> x.could(0, bad));
        }
        t.noTime("no RAILHEAD", x -> x.could(4, 40));
        t.noTime("STOPPED", x -> x.could(1, 40));
        t.noTime("all have gone", x -> x.could(0, 40));
        t.liveOn();
    }

    private static void aims() {
        Twin t = war("aim");
        for (int bad : outside(0, 3)) {
            t.noPlace("variant " + bad, x -> x.aim(bad, 0, 1));
        }
        for (int bad : outside(0, 4)) {
            t.noPlace("unit " + bad, x -> x.aim(0, bad, 1));
        }
        for (int bad : outside(0, 2)) {
            t.noPlace("sector " + bad, x -> x.aim(3, 4, bad));
        }
        t.liveOn();
    }

    private static void passTo(Twin t, int tick) {
        t.tell(x -> {
            Worlds.passTo(x, tick);
            return x.many(0);
        });
    }

    private static void changes() {
        Twin t = war("change");
        for (int bad : outside(0, 3)) {
            t.noPlace("variant " + bad, x -> x.change(bad));
        }
        passTo(t, 2808);
        t.is("at TICK 2808", 0, x -> x.change(3));
        passTo(t, 2809);
        for (int k = 0; k < 4; k++) {
            int good = k;
            t.noTime("at TICK 2809 to " + good, x -> x.change(good));
        }
        for (int bad : outside(0, 3)) {
            t.noPlace("at TICK 2809, variant " + bad, x -> x.change(bad));
        }
        t.liveOn();
    }

    private static void variants() {
        Twin t = war("variant");
        refuseWrongVariants(t);
        passTo(t, 2808);
        t.is("at TICK 2808", 0, x -> x.variant(3, 0));
        passTo(t, 2809);
        for (int k = 0; k < 4; k++) {
            int what = k;
            t.noTime("at TICK 2809, what " + what, x -> x.variant(3 - what, what));
        }
        refuseWrongVariants(t);
        t.liveOn();
    }

    private static void refuseWrongVariants(Twin t) {
        for (int bad : outside(0, 3)) {
            t.noPlace("variant " + bad, x -> x.variant(bad, 0));
            t.noPlace("variant " + bad + ", what wrong", x -> x.variant(bad, 4));
            t.noWorth("what " + bad, x -> x.variant(3, bad));
        }
    }

    private static void boxesAndFouls() {
        Twin t = war("box, foul");
        for (int bad : outside(0, 6)) {
            t.noPlace("train " + bad, x -> x.box(bad, 1));
            t.noPlace("train " + bad + ", ticks wrong", x -> x.box(bad, 73));
        }
        for (int bad : outside(1, 72)) {
            t.noWorth("ticks " + bad + ", on a BLOCK", x -> x.box(5, bad));
            t.noWorth("ticks " + bad + ", unloaded", x -> x.box(4, bad));
            t.noWorth("ticks " + bad + ", DONE", x -> x.box(0, bad));
        }
        t.noTime("unloaded", x -> x.box(4, 1));
        t.noTime("DONE", x -> x.box(0, 72));
        for (int bad : outside(0, 7)) {
            t.noPlace("foul " + bad, x -> x.foul(bad, 1));
            t.noPlace("foul " + bad + ", ticks wrong", x -> x.foul(bad, 145));
        }
        for (int bad : outside(0, 144)) {
            t.noWorth("foul for " + bad, x -> x.foul(0, bad));
        }
        t.liveOn();
    }

    private static void factsOfTrains() {
        Twin t = war("ofTrain, waits, tell");
        for (int bad : outside(0, 6)) {
            t.noPlace("ofTrain " + bad, x -> x.ofTrain(bad, 0));
            t.noPlace("ofTrain " + bad + ", what wrong", x -> x.ofTrain(bad, 10));
            t.noPlace("waits " + bad, x -> x.waits(bad));
            t.noPlace("tell " + bad, x -> x.tell(bad));
        }
        for (int bad : outside(0, 9)) {
            t.noWorth("ofTrain, what " + bad, x -> x.ofTrain(6, bad));
            t.noWorth("ofTrain, what " + bad + ", DONE", x -> x.ofTrain(0, bad));
        }
        t.liveOn();
    }

    private static void supplies() {
        Twin t = war("supply");
        refuseWrongSupplies(t);
        t.noTime("no RAILHEAD", x -> x.supply(2, 40));
        t.is("not DONE", 3, x -> x.many(8));
        for (int k = 4; k <= 6; k++) {
            t.is("number " + k + " is sent", true, x -> x.supply(1, 2000) >= 2000);
        }
        t.noTime("the seventh", x -> x.supply(1, 2000));
        t.noTime("the seventh, and no RAILHEAD", x -> x.supply(2, 40));
        refuseWrongSupplies(t);
        t.liveOn();
    }

    private static void refuseWrongSupplies(Twin t) {
        for (int bad : outside(0, 2)) {
            t.noPlace("sector " + bad, x -> x.supply(bad, 40));
            t.noPlace("sector " + bad + ", tick wrong", x -> x.supply(bad, 39));
        }
        for (int bad : outside(40, 2880)) {
            t.noWorth("tick " + bad, x -> x.supply(0, bad));
            t.noWorth("tick " + bad + ", no RAILHEAD", x -> x.supply(2, bad));
        }
    }

    private static void foes() {
        Twin t = war("foe");
        refuseWrongFoes(t, 1);
        for (int k = 2; k <= 6; k++) {
            t.is("told " + k, k, x -> x.foe(0, 2, 20, 60));
        }
        t.noTime("the seventh", x -> x.foe(0, 2, 20, 1));
        refuseWrongFoes(t, 1);
        t.is("another PLAN", 2, x -> x.foe(1, 0, 1, 1));
        passTo(t, 144 * 19 + 143);
        refuseWrongFoes(t, 20);
        t.noTime("the seventh, on DAY 19", x -> x.foe(0, 0, 20, 1));
        t.is("on DAY 19 of the last DAY", 3, x -> x.foe(1, 0, 20, 1));
        passTo(t, 2880);
        t.noWorth("on DAY 20 no DAY is left", x -> x.foe(1, 0, 20, 1));
        t.noWorth("on DAY 20 there is no DAY 21", x -> x.foe(1, 0, 21, 1));
        t.liveOn();
    }

    private static void refuseWrongFoes(Twin t, int firstDay) {
        for (int bad : outside(0, 2)) {
            t.noPlace("plan " + bad, x -> x.foe(bad, 0, 20, 1));
            t.noPlace("sector " + bad, x -> x.foe(0, bad, 20, 1));
            t.noPlace("plan " + bad + ", day and strength wrong", x -> x.foe(bad, 0, 21, 61));
            t.noPlace("sector " + bad + ", day and strength wrong", x -> x.foe(0, bad, 0, 0));
        }
        for (int bad : outside(firstDay, 20)) {
            t.noWorth("day " + bad, x -> x.foe(0, 0, bad, 1));
        }
        for (int bad : outside(1, 60)) {
            t.noWorth("strength " + bad, x -> x.foe(0, 0, 20, bad));
        }
    }

    private static void factsOfSectors() {
        Twin t = war("ofSector, forecast, balance");
        for (int bad : outside(0, 2)) {
            t.noPlace("ofSector " + bad, x -> x.ofSector(bad, 0));
            t.noPlace("ofSector " + bad + ", what wrong", x -> x.ofSector(bad, 13));
            t.noPlace("forecast " + bad, x -> x.forecast(bad, 0));
            t.noPlace("forecast " + bad + ", day wrong", x -> x.forecast(bad, 22));
            t.noPlace("balance " + bad, x -> x.balance(bad, 0));
            t.noPlace("balance " + bad + ", day wrong", x -> x.balance(bad, -1));
        }
        for (int bad : outside(0, 12)) {
            t.noWorth("ofSector, what " + bad, x -> x.ofSector(2, bad));
        }
        for (int bad : outside(0, 21)) {
            t.noWorth("forecast, day " + bad, x -> x.forecast(2, bad));
            t.noWorth("balance, day " + bad, x -> x.balance(2, bad));
        }
        t.liveOn();
    }

    private static void theFoesPlans() {
        Twin t = war("real, rumour");
        for (int bad : outside(0, 2)) {
            t.noPlace("real " + bad, x -> x.real(bad));
            t.noPlace("rumour " + bad, x -> x.rumour(bad));
        }
        t.liveOn();
    }

    private static void time() {
        Twin t = war("pass, many");
        for (int bad : outside(1, 144)) {
            t.noWorth("pass " + bad, x -> x.pass(bad));
        }
        for (int bad : outside(0, 12)) {
            t.noWorth("many " + bad, x -> x.many(bad));
        }
        passTo(t, 2737);
        t.noTime("pass, one TICK above 2880", x -> x.pass(144));
        for (int bad : outside(1, 144)) {
            t.noWorth("pass " + bad + ", above 2880 too", x -> x.pass(bad));
        }
        t.is("pass, just to 2880", 2880, x -> x.pass(143));
        t.noTime("pass, at 2880", x -> x.pass(1));
        t.noWorth("pass, at 2880, ticks 0", x -> x.pass(0));
        t.noWorth("pass, at 2880, ticks 145", x -> x.pass(145));
        t.liveOn();
    }

    /** Where nothing was told there is no STATION, LINE, UNIT and TRAIN 0; SECTORS, VARIANTS and PLANS there are. */
    private static void onANewObject() {
        Twin t = new Twin(check, "new");
        t.noPlace("line", x -> x.line(0, 0, 1, true, 0));
        t.noPlace("bridge", x -> x.bridge(0));
        t.noPlace("way", x -> x.way(0, 0, 0));
        t.noPlace("ofStation", x -> x.ofStation(0, 0));
        t.noPlace("ofLine", x -> x.ofLine(0, 0));
        t.noPlace("unit", x -> x.unit(0, 1, 0, 0));
        t.noPlace("railhead", x -> x.railhead(0, 0, 24));
        t.noPlace("stop", x -> x.stop(0));
        t.noPlace("ofUnit", x -> x.ofUnit(0, 0));
        t.noPlace("plan", x -> x.plan(0, 0));
        t.noPlace("drop", x -> x.drop(0));
        t.noPlace("path", x -> x.path(0, 0, 0));
        t.noPlace("could", x -> x.could(0, 0));
        t.noPlace("planned", x -> x.planned(0, 0));
        t.noPlace("aim", x -> x.aim(0, 0, 0));
        t.noPlace("box", x -> x.box(0, 1));
        t.noPlace("foul", x -> x.foul(0, 1));
        t.noPlace("ofTrain", x -> x.ofTrain(0, 0));
        t.noPlace("waits", x -> x.waits(0));
        t.noPlace("tell", x -> x.tell(0));
        t.noTime("supply", x -> x.supply(0, 0));
        t.is("change", 0, x -> x.change(0));
        for (int k = 0; k < 4; k++) {
            int what = k;
            t.is("variant " + what, 0, x -> x.variant(3, what));
        }
        t.is("forecast", 0, x -> x.forecast(2, 21));
        t.is("balance", 0, x -> x.balance(2, 21));
        t.liveOn();
    }
}
