/** Promises 14 to 21: plans, paths, what fouls, and variants. */
public final class PathsTest {
    private static final Check check = new Check("PathsTest");

    public static void main(String[] args) {
        plansOfAUnit();
        refusedPlans();
        pathsOverSeveralLines();
        oneBlockAtATime();
        singleLinesBothWays();
        doubleLinesBothWays();
        rampsOfARailhead();
        plansWithoutAWay();
        plansThatFoulAtALine();
        plansThatFoulAtRamps();
        drops();
        whatCouldBe();
        plannedLines();
        aims();
        changes();
        changesThatCanNotBe();
        changesOfPartlyGoneUnits();
        variants();
        check.end();
    }

    private static ThirteenthDay chain(int stations, int ramps, int blocks, boolean isDouble, int grade) {
        return Worlds.chain(stations, ramps, 5, blocks, isDouble, grade);
    }

    private static void plansOfAUnit() {
        ThirteenthDay x = chain(2, 3, 2, false, 1);
        x.unit(0, 3, 0, 0);
        x.railhead(0, 1, 6);
        check.is("plan: START of the last", 16, x.plan(0, 10));
        int[] starts = {10, 13, 16};
        for (int load = 0; load < 3; load++) {
            check.is("path: START of " + load, starts[load], x.path(0, load, 0));
            check.is("path: ARRIVES of " + load, starts[load] + 6, x.path(0, load, 1));
            check.is("path: LINES of " + load, 1, x.path(0, load, 2));
        }
        check.is("plan: PATHS kept", 3, x.many(7));
        check.is("plan: last ARRIVES", 22, x.ofUnit(0, 10));
        ThirteenthDay y = chain(1, 3, 1, false, 0);
        y.unit(0, 3, 0, 0);
        y.railhead(0, 0, 6);
        check.is("plan: HOME is the RAILHEAD", 2, y.plan(0, 0));
        check.is("path: without any LINE ARRIVES", 1, y.path(0, 1, 1));
        check.is("path: without any LINE, LINES", 0, y.path(0, 1, 2));
    }

    private static void refusedPlans() {
        ThirteenthDay x = chain(2, 3, 1, false, 0);
        x.unit(0, 1, 0, 0);
        x.unit(0, 1, 0, 1);
        x.pass(5);
        check.noPlace("plan: unit -1", x, () -> x.plan(-1, 5));
        check.noPlace("plan: unit 2, tick wrong", x, () -> x.plan(2, 4));
        check.noWorth("plan: tick is gone by", x, () -> x.plan(0, 4));
        check.noWorth("plan: tick 2881", x, () -> x.plan(0, 2881));
        check.noTime("plan: no RAILHEAD", x, () -> x.plan(0, 5));
        x.railhead(0, 1, 6);
        check.is("plan: TICK 2880", 2880, x.plan(0, 2880));
        check.noTime("plan: it has PATHS", x, () -> x.plan(0, 6));
        check.noWorth("plan: it has PATHS, tick wrong", x, () -> x.plan(0, 4));
        check.is("drop: the far one", 1, x.drop(0));
        check.is("plan: TICK itself", 5, x.plan(0, 5));
        x.order(1);
        x.pass(6);
        check.is("plan: gone", 1, x.ofUnit(0, 7));
        check.noTime("plan: all have gone", x, () -> x.plan(0, 20));
        check.noTime("could: all have gone", x, () -> x.could(0, 20));
        check.noPlace("path: unit -1", x, () -> x.path(-1, 0, 0));
        check.noPlace("path: unit 2", x, () -> x.path(2, 0, 0));
        check.noPlace("path: load -1", x, () -> x.path(0, -1, 0));
        check.noPlace("path: load 1, what wrong", x, () -> x.path(0, 1, 3));
        check.noWorth("path: what -1", x, () -> x.path(0, 0, -1));
        check.noWorth("path: what 3", x, () -> x.path(0, 0, 3));
        check.is("path: kept till DONE", 5, x.path(0, 0, 0));
        x.pass(10);
        check.is("path: DONE", -1, x.path(0, 0, 0));
        check.is("path: DONE, ARRIVES", -1, x.path(0, 0, 1));
        check.is("path: DONE, LINES", -1, x.path(0, 0, 2));
    }

    private static void pathsOverSeveralLines() {
        ThirteenthDay x = chain(4, 3, 2, false, 0);
        x.unit(0, 1, 0, 0);
        x.railhead(0, 3, 6);
        x.plan(0, 7);
        check.is("path: it stands a TICK between LINES", 7 + 4 + 1 + 4 + 1 + 4, x.path(0, 0, 1));
        check.is("path: three LINES", 3, x.path(0, 0, 2));
        int[] lineAt = {-1, 0, 0, 0, 0, -1, 1, 1, 1, 1, -1, 2, 2, 2, 2, -1};
        for (int k = 0; k < lineAt.length; k++) {
            for (int line = 0; line < 3; line++) {
                check.is("planned: " + line + " at " + (6 + k), lineAt[k] == line ? 1 : 0, x.planned(line, 6 + k));
            }
        }
    }

    private static void oneBlockAtATime() {
        for (int twin = 0; twin < 2; twin++) {
            ThirteenthDay x = chain(2, 3, 5, twin == 1, 2);
            x.unit(0, 1, 0, 0);
            x.unit(0, 1, 0, 0);
            x.railhead(0, 1, 6);
            x.plan(0, 100);
            check.is("plan: a PACE ahead", 96, x.plan(1, 96));
            x.drop(1);
            check.is("plan: less than a PACE ahead", 104, x.plan(1, 97));
            x.drop(1);
            check.is("plan: a PACE behind", 104, x.plan(1, 104));
        }
    }

    private static void singleLinesBothWays() {
        ThirteenthDay x = chain(2, 3, 5, false, 0);
        x.unit(0, 1, 0, 0);
        x.unit(0, 1, 1, 1);
        x.railhead(0, 1, 6);
        x.railhead(1, 0, 6);
        x.plan(0, 100);
        check.is("plan: off the LINE as the other one is on it", 90, x.plan(1, 90));
        x.drop(1);
        check.is("plan: not with one in the other direction", 110, x.plan(1, 91));
    }

    private static void doubleLinesBothWays() {
        ThirteenthDay x = chain(2, 3, 5, true, 0);
        x.unit(0, 1, 0, 0);
        x.unit(0, 1, 1, 1);
        x.railhead(0, 1, 6);
        x.railhead(1, 0, 6);
        x.plan(0, 100);
        check.is("plan: the other direction is free", 100, x.plan(1, 100));
        check.is("planned: two", 2, x.planned(0, 100));
        check.is("planned: two at the end", 2, x.planned(0, 109));
        check.is("planned: none behind", 0, x.planned(0, 110));
    }

    private static void rampsOfARailhead() {
        ThirteenthDay x = chain(2, 1, 1, true, 0);
        x.unit(1, 3, 0, 0);
        x.railhead(0, 1, 6);
        check.is("plan: one RAMP, unloading takes 3", 6, x.plan(0, 0));
        x.unit(3, 1, 1, 1);
        x.railhead(1, 1, 6);
        check.is("plan: a RAMP of another SECTOR's PATHS", 11, x.plan(1, 0));
        x.drop(1);
        check.is("plan: ahead of all of them there is no room", 11, x.plan(1, 0));
        ThirteenthDay y = chain(2, 2, 1, true, 0);
        y.unit(3, 4, 0, 0);
        y.railhead(0, 1, 6);
        check.is("plan: two RAMPS, unloading takes 9", 11, y.plan(0, 0));
        int[] starts = {0, 2, 9, 11};
        for (int load = 0; load < 4; load++) {
            check.is("path: START by two RAMPS, " + load, starts[load], y.path(0, load, 0));
        }
        int[] unloading = {2, 3, 6, 9, 4};
        for (int kind = 0; kind < 5; kind++) {
            ThirteenthDay z = chain(1, 1, 1, true, 0);
            z.unit(kind, 2, 0, 0);
            z.railhead(0, 0, 6);
            check.is("plan: unloading of KIND " + kind, unloading[kind], z.plan(0, 0));
        }
    }

    private static void plansWithoutAWay() {
        ThirteenthDay x = chain(2, 3, 1, false, 0);
        x.station(1, 0, 0, false);
        x.unit(0, 2, 0, 0);
        x.railhead(0, 2, 6);
        long before = x.digest();
        check.is("plan: without a way", -2, x.plan(0, 0));
        check.is("could: without a way", -2, x.could(0, 0));
        check.is("supply: without a way", -2, x.supply(0, 0));
        check.is("plan: without a way nothing changes", before, x.digest());
        x.line(2, 1, 1, false, 0);
        check.is("plan: with a new LINE", 2, x.plan(0, 0));
        x.bridge(0);
        check.is("path: it stays as it was laid", 5, x.path(0, 0, 1));
    }

    /** Forty LOADS, one each nine TICKS, over a LINE of 20 TICKS: none can go the other way. */
    private static ThirteenthDay fullSingleLine(int from) {
        ThirteenthDay x = chain(3, 1, 5, false, 2);
        for (int k = 0; k < 5; k++) {
            x.unit(3, 8, 1, 0);
        }
        x.unit(0, 2, 2, 1);
        x.railhead(0, 2, 6);
        x.railhead(1, 0, 6);
        for (int k = 0; k < 5; k++) {
            check.is("plan: of the full LINE, " + k, from + 72 * k + 63, x.plan(k, from + 72 * k));
        }
        return x;
    }

    private static void plansThatFoulAtALine() {
        ThirteenthDay x = fullSingleLine(0);
        long before = x.digest();
        check.is("plan: FOULS on LINE 1", -11, x.plan(5, 5));
        check.is("could: FOULS on LINE 1", -11, x.could(5, 82));
        check.is("plan: that FOULS changes nothing", before, x.digest());
        check.is("plan: the last START of all, one too early", -11, x.could(5, 370 - 288));
        x.drop(4);
        check.is("plan: the first one behind all", 3 * 72 + 63 + 20 + 4, x.plan(5, 20));
        ThirteenthDay y = fullSingleLine(0);
        check.is("plan: its second LOAD finds none", -11, y.plan(5, 371 - 288));
        check.is("plan: both find one", 375, y.plan(5, 375 - 288));
        ThirteenthDay w = fullSingleLine(100);
        check.is("plan: the LOAD ahead has the last START", -11, w.plan(5, 471 - 288));
        ThirteenthDay z = fullSingleLine(0);
        check.is("supply: FOULS at the RAMPS alone", -3, z.supply(0, 1));
        check.is("many: no SUPPLY by that", 0, z.many(8));
    }

    private static void plansThatFoulAtRamps() {
        ThirteenthDay x = chain(2, 1, 1, true, 0);
        for (int k = 0; k < 5; k++) {
            x.unit(3, 8, 0, 0);
        }
        x.railhead(0, 0, 6);
        for (int k = 0; k < 4; k++) {
            check.is("plan: RAMPS, " + k, 72 * k + 63, x.plan(k, 0));
        }
        long before = x.digest();
        check.is("plan: RAMPS are taken", -3, x.plan(4, 0));
        check.is("plan: RAMPS taken, nothing is kept", before, x.digest());
        check.is("plan: the last LOAD finds none", -3, x.plan(4, 351 - 289));
        check.is("plan: the last LOAD finds the last", 351, x.plan(4, 351 - 288));
    }

    private static void drops() {
        ThirteenthDay x = chain(2, 3, 1, false, 0);
        x.unit(1, 3, 0, 0);
        x.railhead(0, 1, 6);
        check.noPlace("drop: -1", x, () -> x.drop(-1));
        check.noPlace("drop: 1", x, () -> x.drop(1));
        check.is("drop: none", 0, x.drop(0));
        x.plan(0, 0);
        x.order(1);
        x.pass(6);
        check.is("drop: those that have not gone", 2, x.drop(0));
        check.is("drop: what has gone keeps its PATH", 0, x.path(0, 0, 0));
        check.is("drop: the next has none", -1, x.path(0, 1, 0));
        check.is("many: PATHS kept", 1, x.many(7));
        x.pass(20);
        check.is("drop: without PATHS nobody goes", 1, x.many(5));
        check.is("plan: what has not gone", 33, x.plan(0, 31));
    }

    private static void whatCouldBe() {
        ThirteenthDay x = chain(2, 3, 1, false, 0);
        x.unit(1, 2, 0, 0);
        x.unit(1, 1, 0, 0);
        x.unit(1, 1, 0, 1);
        check.noPlace("could: -1", x, () -> x.could(-1, 0));
        check.noPlace("could: 3, tick wrong", x, () -> x.could(3, -1));
        check.noWorth("could: -1", x, () -> x.could(0, -1));
        check.noWorth("could: 2881", x, () -> x.could(0, 2881));
        check.noTime("could: no RAILHEAD", x, () -> x.could(0, 0));
        x.railhead(0, 1, 6);
        x.plan(0, 0);
        long before = x.digest();
        check.is("could: its own PATHS are not in its way", 3, x.could(0, 1));
        check.is("could: others are", 4, x.could(1, 0));
        check.is("could: nothing is changed", before, x.digest());
        check.is("plan: as it could", 4, x.plan(1, 0));
        x.order(1);
        x.stop(0);
        x.pass(1);
        check.noTime("could: STOPPED", x, () -> x.could(0, 5));
    }

    private static void plannedLines() {
        ThirteenthDay x = chain(2, 3, 2, false, 1);
        check.noPlace("planned: -1", x, () -> x.planned(-1, 0));
        check.noPlace("planned: 1", x, () -> x.planned(1, 0));
        x.unit(1, 2, 0, 0);
        x.railhead(0, 1, 6);
        x.plan(0, 10);
        int[] due = {0, 1, 1, 1, 2, 2, 2, 1, 1, 1, 0};
        for (int k = 0; k < due.length; k++) {
            check.is("planned: at " + (9 + k), due[k], x.planned(0, 9 + k));
        }
        check.is("planned: the least TICK", 0, x.planned(0, Integer.MIN_VALUE));
        check.is("planned: the greatest TICK", 0, x.planned(0, Integer.MAX_VALUE));
    }

    private static void aims() {
        ThirteenthDay x = chain(2, 3, 1, false, 0);
        x.unit(1, 1, 0, 2);
        check.noPlace("aim: variant -1", x, () -> x.aim(-1, 0, 0));
        check.noPlace("aim: variant 4", x, () -> x.aim(4, 0, 0));
        check.noPlace("aim: unit -1", x, () -> x.aim(0, -1, 0));
        check.noPlace("aim: unit 1", x, () -> x.aim(0, 1, 0));
        check.noPlace("aim: sector -1", x, () -> x.aim(0, 0, -1));
        check.noPlace("aim: sector 3", x, () -> x.aim(0, 0, 3));
        check.is("aim: as it was told", 2, x.aim(1, 0, 1));
        check.is("aim: the one before", 1, x.aim(1, 0, 0));
        check.is("aim: another VARIANT", 2, x.aim(3, 0, 2));
        check.is("aim: of 1 it stays", 0, x.aim(1, 0, 0));
    }

    private static void changes() {
        ThirteenthDay x = chain(3, 2, 1, false, 0);
        check.noPlace("change: -1", x, () -> x.change(-1));
        check.noPlace("change: 4", x, () -> x.change(4));
        x.railhead(0, 1, 6);
        x.railhead(1, 2, 6);
        x.unit(1, 2, 0, 0);
        x.unit(1, 1, 0, 0);
        x.unit(1, 1, 0, 1);
        check.is("change: nobody is to change", 0, x.change(0));
        x.plan(0, 0);
        x.plan(1, 100);
        x.plan(2, 100);
        x.aim(0, 0, 1);
        x.aim(0, 1, 1);
        x.pass(3);
        check.is("change: LOADS that have new PATHS", 3, x.change(0));
        int[] starts = {39, 41};
        for (int load = 0; load < 2; load++) {
            check.is("change: from TICK and 36 on, " + load, starts[load], x.path(0, load, 0));
            check.is("change: two LINES, " + load, 2, x.path(0, load, 2));
        }
        check.is("change: the next UNIT behind", 43, x.path(1, 0, 0));
        check.is("change: a UNIT with this AIM is left alone", 102, x.path(2, 0, 0));
        check.is("change: SECTOR of 0", 1, x.ofUnit(0, 3));
        check.is("change: SECTOR of 1", 1, x.ofUnit(1, 3));
        check.is("change: carried out already", 0, x.change(0));
        check.is("change: back", 3, x.change(1));
        check.is("change: SECTOR of 0 again", 0, x.ofUnit(0, 3));
        for (int k = 0; k < 19; k++) {
            x.pass(144);
        }
        x.pass(69);
        check.is("change: TICK 2808", 2808, x.many(0));
        check.is("change: at TICK 2808", 3, x.change(0));
        x.pass(1);
        check.noTime("change: at TICK 2809", x, () -> x.change(1));
        check.noTime("variant: at TICK 2809", x, () -> x.variant(1, 1));
        check.noPlace("change: at TICK 2809, and wrong", x, () -> x.change(4));
        check.noWorth("variant: at TICK 2809, and wrong", x, () -> x.variant(1, 4));
    }

    private static void changesThatCanNotBe() {
        ThirteenthDay x = chain(3, 1, 1, false, 0);
        x.station(1, 0, 0, false);
        x.railhead(0, 1, 6);
        x.unit(1, 2, 0, 0);
        x.unit(1, 2, 0, 0);
        x.plan(0, 0);
        x.plan(1, 0);
        x.aim(0, 0, 1);
        x.aim(1, 1, 1);
        x.aim(2, 0, 2);
        x.aim(2, 1, 1);
        x.railhead(2, 2, 6);
        long before = x.digest();
        check.is("change: no RAILHEAD", -2, x.change(0));
        check.is("change: of the second UNIT", -2, x.change(2));
        check.is("variant: of the second UNIT", -2, x.variant(2, 0));
        check.is("change: all stays as it was", before, x.digest());
        x.railhead(1, 3, 6);
        check.is("change: without a way", -2, x.change(1));
        check.is("change: SECTOR stays", 0, x.ofUnit(1, 3));
        check.is("change: PATHS stay", 4, x.many(7));
        ThirteenthDay y = fullSingleLine(0);
        y.aim(3, 5, 2);
        y.railhead(2, 0, 6);
        y.aim(3, 0, 1);
        before = y.digest();
        check.is("change: FOULS on LINE 1", -11, y.change(3));
        check.is("variant: FOULS on LINE 1", -11, y.variant(3, 0));
        check.is("change: half of it is not carried out", before, y.digest());
    }

    private static void changesOfPartlyGoneUnits() {
        ThirteenthDay x = chain(3, 2, 1, false, 0);
        x.railhead(0, 1, 6);
        x.railhead(1, 2, 6);
        x.unit(1, 3, 0, 0);
        x.unit(1, 1, 0, 0);
        x.unit(1, 1, 1, 0);
        x.plan(0, 0);
        x.plan(1, 0);
        x.order(7);
        x.pass(6);
        x.stop(2);
        check.is("change: one has gone", 1, x.ofUnit(0, 7));
        for (int unit = 0; unit < 3; unit++) {
            x.aim(0, unit, 1);
        }
        check.is("variant: three UNITS", 3, x.variant(0, 1));
        x.pass(3);
        check.is("variant: the STOPPED one is left out", 2, x.variant(0, 1));
        check.is("variant: one LOAD has gone", 1, x.variant(0, 2));
        check.is("variant: one PATH is not dropped", 1, x.variant(0, 3));
        check.is("change: three LOADS", 3, x.change(0));
        check.is("change: what has gone keeps its PATH", 0, x.path(0, 0, 0));
        check.is("change: its GOAL stays", 1, x.ofTrain(0, 9));
        check.is("change: the STOPPED one stays", 0, x.ofUnit(2, 3));
        x.pass(60);
        check.is("change: what had gone is at the SECTOR for which it went", 1, x.ofSector(0, 2));
        check.is("change: the others are at the new one", 3, x.ofSector(1, 2));
        check.is("variant: all LOADS have gone", 0, x.variant(1, 1));
        check.is("change: all LOADS have gone", 0, x.change(1));
        check.is("change: all LOADS have gone, SECTOR stays", 1, x.ofUnit(0, 3));
    }

    private static void variants() {
        ThirteenthDay x = chain(2, 3, 1, false, 0);
        check.noPlace("variant: -1", x, () -> x.variant(-1, 0));
        check.noPlace("variant: 4, what wrong", x, () -> x.variant(4, 4));
        check.noWorth("variant: what -1", x, () -> x.variant(0, -1));
        check.noWorth("variant: what 4", x, () -> x.variant(0, 4));
        x.unit(1, 2, 0, 0);
        x.unit(1, 1, 0, 1);
        x.railhead(0, 1, 6);
        x.railhead(1, 1, 6);
        x.plan(0, 0);
        x.plan(1, 0);
        x.supply(0, 0);
        x.aim(2, 0, 1);
        long before = x.digest();
        check.is("variant: nobody to change", 0, x.variant(0, 0));
        check.is("variant: nobody to change, PATHS", 4, x.variant(0, 3));
        check.is("variant: what change() would tell", 2, x.variant(2, 0));
        check.is("variant: one UNIT", 1, x.variant(2, 1));
        check.is("variant: none has gone", 0, x.variant(2, 2));
        check.is("variant: PATHS that are not dropped", 2, x.variant(2, 3));
        check.is("variant: nothing is changed", before, x.digest());
        x.aim(2, 0, 2);
        check.is("variant: no RAILHEAD", -2, x.variant(2, 0));
        check.is("variant: PATHS, though it can not be", 2, x.variant(2, 3));
    }
}
