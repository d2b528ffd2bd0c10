/** Section 6: what bounds the foe, fights, GROUND and WOUNDED, and what is SEEN and guessed where there is nothing. */
public final class FoeBoundsTest {
    private static final Check check = new Check("FoeBoundsTest");
    private static final int NONE = -1;

    public static void main(String[] args) {
        eachValueOfAFoe();
        sixOfEachPlan();
        sixOfOnePlanAlone();
        asItsDayBegins();
        byThePlanOfThatMoment();
        onTheLastDay();
        seenTwoDaysLater();
        whatIsPossible();
        whatIsPossibleADayLater();
        rumoursAndTies();
        noneIsPossible();
        balancesUpToADay();
        fightsRow();
        halfOfAHungrySector();
        groundFromMinus5To5();
        whatComesToALostSector();
        aLostSectorThatIsHungry();
        upToSixWounded();
        woundedOfTheSectorForWhichItWent();
        sectorBySector();
        check.end();
    }

    /** A strength (1 to 60), on a DAY above DAY and up to 20, for each PLAN and SECTOR. */
    private static void eachValueOfAFoe() {
        int[] days = {1, 20};
        int[] strengths = {1, 60};
        for (int plan = 0; plan < 3; plan++) {
            for (int sector = 0; sector < 3; sector++) {
                for (int day : days) {
                    for (int strength : strengths) {
                        ThirteenthDay x = new ThirteenthDay();
                        check.is("foe: the first of it", 1, x.foe(plan, sector, day, strength));
                        check.is("foe: told", 1, x.many(12));
                        check.is("real: 0 at first", 0, x.real(plan));
                        Worlds.passTo(x, 144 * day - 1);
                        check.is("foe: ahead of its DAY", 0, x.ofSector(sector, 4));
                        x.pass(1);
                        for (int other = 0; other < 3; other++) {
                            check.is("foe: as it begins", other == sector ? strength : 0, x.ofSector(other, 4));
                        }
                    }
                }
            }
        }
    }

    /** In a PLAN at most 6 that COME are told. */
    private static void sixOfEachPlan() {
        Twin t = new Twin(check, "six of each");
        for (int k = 0; k < 18; k++) {
            int plan = k % 3;
            int number = k / 3 + 1;
            t.is("told of it", number, x -> x.foe(plan, plan, number, 60));
            t.is("told of all", plan + 3 * number - 2, x -> x.many(12));
        }
        for (int k = 0; k < 3; k++) {
            int plan = k;
            t.noTime("a seventh", x -> x.foe(plan, 0, 20, 1));
            t.noWorth("a seventh, and strength wrong", x -> x.foe(plan, 0, 20, 61));
        }
        t.is("18 of all", 18, x -> x.many(12));
        t.liveOn();
    }

    /** What is told of a PLAN that is full is that PLAN's alone. */
    private static void sixOfOnePlanAlone() {
        for (int full = 0; full < 3; full++) {
            for (int real = 0; real < 3; real++) {
                ThirteenthDay x = new ThirteenthDay();
                for (int k = 1; k <= 6; k++) {
                    check.is("one PLAN: told", k, x.foe(full, 0, k, 10 + k));
                }
                x.real(real);
                x.rumour(real);
                int[] sums = {0, 11, 23, 36, 50, 65, 81, 81};
                for (int day = 0; day <= 7; day++) {
                    int due = real == full ? sums[day] : 0;
                    int foe = real == full ? sums[Math.min(5, day)] : 0;
                    check.is("one PLAN: balance of DAY " + day, -due, x.balance(0, day));
                    check.is("one PLAN: FOE on DAY " + day + ", LOST on DAY 5", foe, x.ofSector(0, 4));
                    x.pass(144);
                }
                check.is("one PLAN: SEEN up to DAY 6", real == full ? 81 : 0, x.ofSector(0, 5));
                check.is("one PLAN: it is POSSIBLE", real, x.guess());
            }
        }
    }

    /** Several that COME to one SECTOR on one DAY come together; FOE is what CAME on all DAYS. */
    private static void asItsDayBegins() {
        ThirteenthDay x = new ThirteenthDay();
        for (int k = 1; k <= 6; k++) {
            x.foe(0, 1, k <= 5 ? 2 : 3, 60);
        }
        Worlds.passTo(x, 287);
        check.is("begins: none yet", 0, x.ofSector(1, 4));
        x.pass(1);
        check.is("begins: five of 60", 300, x.ofSector(1, 4));
        x.pass(143);
        check.is("begins: till the end of the DAY", 300, x.ofSector(1, 4));
        x.pass(1);
        check.is("begins: one more", 360, x.ofSector(1, 4));
        check.is("begins: GROUND of two DAYS", -2, x.ofSector(1, 6));
        check.is("begins: nobody is WOUNDED where nobody is", 0, x.ofSector(1, 9));
    }

    /** What CAME is by the PLAN that was carried out as that DAY began. */
    private static void byThePlanOfThatMoment() {
        ThirteenthDay x = new ThirteenthDay();
        x.foe(0, 0, 1, 5);
        x.foe(1, 0, 1, 7);
        x.foe(2, 0, 2, 11);
        Worlds.passTo(x, 143);
        check.is("real: before", 0, x.real(1));
        x.pass(1);
        check.is("real: of PLAN 1", 7, x.ofSector(0, 4));
        check.is("real: before", 1, x.real(0));
        check.is("real: what CAME stays", 7, x.ofSector(0, 4));
        check.is("real: before", 0, x.real(2));
        x.pass(144);
        check.is("real: and of PLAN 2", 18, x.ofSector(0, 4));
        check.is("real: the same again", 2, x.real(2));
    }

    /** DAY 20 begins with TICK 2880: what COMES then is FOE, but never SEEN. */
    private static void onTheLastDay() {
        ThirteenthDay x = new ThirteenthDay();
        x.foe(0, 0, 20, 60);
        x.foe(0, 1, 18, 9);
        x.foe(0, 1, 19, 9);
        Worlds.passTo(x, 2879);
        check.is("last: DAY 18 is not SEEN", 0, x.ofSector(1, 5));
        check.is("last: none yet", 0, x.ofSector(0, 4));
        x.pass(1);
        check.is("last: DAY", 20, x.many(1));
        check.is("last: FOE", 60, x.ofSector(0, 4));
        check.is("last: a fight", -1, x.ofSector(0, 6));
        check.is("last: not SEEN", 0, x.ofSector(0, 5));
        check.is("last: DAY 18 is SEEN, 19 is not", 9, x.ofSector(1, 5));
    }

    /** SEEN 2 DAYS later, as that DAY begins: all that CAME up to DAY - 2, whatever of it is lost since. */
    private static void seenTwoDaysLater() {
        ThirteenthDay x = Worlds.camp();
        Worlds.send(x, 3, 8, 0);
        x.foe(0, 0, 1, 5);
        x.foe(0, 0, 2, 6);
        int[][] due = {{287, 0}, {288, 0}, {431, 0}, {432, 5}, {575, 5}, {576, 11}, {2880, 11}};
        for (int[] row : due) {
            Worlds.passTo(x, row[0]);
            check.is("seen: at " + row[0], row[1], x.ofSector(0, 5));
        }
        check.is("seen: FOE has lost all", 0, x.ofSector(0, 4));
        check.is("seen: nobody elsewhere", 0, x.ofSector(1, 5));
    }

    /** Whether PLAN 1 is POSSIBLE is told by the GUESS: it alone has a RUMOUR. At most two are told of it. */
    private static ThirteenthDay guessing(int... told) {
        ThirteenthDay x = new ThirteenthDay();
        x.foe(0, 0, 1, 10);
        for (int k = 0; k + 2 < told.length; k += 3) {
            x.foe(1, told[k], told[k + 1], told[k + 2]);
        }
        x.rumour(1);
        Worlds.passTo(x, 431);
        check.is("possible: nothing is SEEN", 1, x.guess());
        x.pass(1);
        return x;
    }

    /** POSSIBLE: for each DAY that is SEEN and each SECTOR just as much for that DAY as CAME. */
    private static void whatIsPossible() {
        check.is("possible: the same", 1, guessing(0, 1, 10).guess());
        check.is("possible: in two parts", 1, guessing(0, 1, 4, 0, 1, 6).guess());
        check.is("possible: one less", 0, guessing(0, 1, 9).guess());
        check.is("possible: one more", 0, guessing(0, 1, 11).guess());
        check.is("possible: more in two parts", 0, guessing(0, 1, 10, 0, 1, 1).guess());
        check.is("possible: another SECTOR", 0, guessing(1, 1, 10).guess());
        check.is("possible: another SECTOR too", 0, guessing(0, 1, 10, 2, 1, 1).guess());
        check.is("possible: another DAY", 0, guessing(0, 2, 10).guess());
        check.is("possible: nothing", 0, guessing().guess());
        check.is("possible: another DAY that is not SEEN", 1, guessing(0, 1, 10, 0, 2, 1).guess());
    }

    private static void whatIsPossibleADayLater() {
        ThirteenthDay x = guessing(0, 1, 10, 2, 2, 1);
        Worlds.passTo(x, 575);
        check.is("later: DAY 2 is not SEEN", 1, x.guess());
        x.pass(1);
        check.is("later: DAY 2 is SEEN, nobody came", 0, x.guess());
        ThirteenthDay y = guessing(0, 1, 10);
        y.foe(0, 0, 4, 10);
        Worlds.passTo(y, 863);
        check.is("later: DAY 4 is not SEEN", 1, y.guess());
        y.pass(1);
        check.is("later: DAY 4 is SEEN, 1 has nobody for it", 0, y.guess());
        Worlds.passTo(y, 2880);
        check.is("later: to the last DAY", 0, y.guess());
    }

    /** The POSSIBLE one with most RUMOURS, of several the smallest one. */
    private static void rumoursAndTies() {
        ThirteenthDay x = new ThirteenthDay();
        check.is("rumours: none of any", 0, x.guess());
        check.is("rumours: the first of 2", 1, x.rumour(2));
        check.is("rumours: most", 2, x.guess());
        check.is("rumours: the first of 1", 1, x.rumour(1));
        check.is("rumours: 1 as many as 2", 1, x.guess());
        check.is("rumours: the first of 0", 1, x.rumour(0));
        check.is("rumours: all as many", 0, x.guess());
        check.is("rumours: the second of 2", 2, x.rumour(2));
        check.is("rumours: one more", 2, x.guess());
        for (int k = 3; k <= 100; k++) {
            check.is("rumours: counted", k, x.rumour(2));
        }
        x.foe(2, 0, 1, 1);
        Worlds.passTo(x, 432);
        check.is("rumours: 2 is not POSSIBLE any more", 0, x.guess());
        check.is("rumours: 1 has one more than 0", 2, x.rumour(1));
        check.is("rumours: most of POSSIBLE ones", 1, x.guess());
    }

    /** NONE without one; NONE has nothing for a balance. */
    private static void noneIsPossible() {
        ThirteenthDay x = new ThirteenthDay();
        x.foe(0, 0, 1, 5);
        x.foe(1, 0, 2, 6);
        x.foe(2, 0, 2, 6);
        check.is("none: balance with the GUESS 0", -5, x.balance(0, 21));
        Worlds.passTo(x, 143);
        x.real(1);
        Worlds.passTo(x, 431);
        check.is("none: nothing is SEEN", 0, x.guess());
        x.pass(1);
        check.is("none: 0 is not POSSIBLE", 1, x.guess());
        check.is("none: balance with the GUESS 1", -6, x.balance(0, 21));
        Worlds.passTo(x, 575);
        check.is("none: DAY 2 is not SEEN", 1, x.guess());
        x.pass(1);
        check.is("none: 1 and 2 are as it CAME", 1, x.guess());
        ThirteenthDay y = new ThirteenthDay();
        for (int plan = 0; plan < 3; plan++) {
            y.foe(plan, 0, plan + 1, 5);
        }
        y.pass(143);
        y.real(2);
        Worlds.passTo(y, 287);
        y.real(0);
        Worlds.passTo(y, 576);
        check.is("none: 2, as nobody came on DAY 1 and 2", 2, y.guess());
        check.is("none: balance with the GUESS 2", -5, y.balance(0, 3));
        y.pass(144);
        check.is("none: nobody came on DAY 3", NONE, y.guess());
        check.is("none: balance without a GUESS", 0, y.balance(0, 21));
        check.is("none: a RUMOUR does not help", 1, y.rumour(1));
        check.is("none: for ever", NONE, y.guess());
    }

    /** All that the GUESS has for that SECTOR up to that DAY, with it; of DAY 0 to 21. */
    private static void balancesUpToADay() {
        ThirteenthDay x = Worlds.camp();
        Worlds.send(x, 3, 1, 0);
        Worlds.passTo(x, 100);
        x.foe(0, 0, 2, 10);
        x.foe(0, 0, 20, 3);
        x.foe(0, 1, 1, 7);
        x.foe(1, 0, 1, 60);
        for (int day = 0; day <= 21; day++) {
            check.is("balance: DAY " + day, 6 - (day >= 2 ? 10 : 0) - (day >= 20 ? 3 : 0), x.balance(0, day));
            check.is("balance: of SECTOR 1", day >= 1 ? -7 : 0, x.balance(1, day));
            check.is("balance: of SECTOR 2", 0, x.balance(2, day));
        }
        x.rumour(1);
        check.is("balance: of another GUESS, DAY 0", 6, x.balance(0, 0));
        check.is("balance: of another GUESS, DAY 1", -54, x.balance(0, 1));
    }

    /** One fight of staff (1 each) and foot (4 each) on DAY 1: GROUND, FOE and WOUNDED behind it. */
    private static void fightsRow() {
        int[][] rows = {
            // staff, foot, FOE told, GROUND, FOE, WOUNDED
            {0, 0, 0, 0, 0, 0},
            {0, 0, 1, -1, 1, 0},
            {0, 0, 60, -1, 60, 0},
            {1, 0, 0, 1, 0, 0},
            {1, 0, 1, 0, 1, 0},
            {1, 0, 2, -1, 2, 0},
            {1, 0, 60, -1, 60, 1},
            {2, 1, 60, -1, 60, 6},
            {3, 1, 60, -1, 60, 7},
            {3, 1, 7, 0, 7, 0},
            {3, 1, 8, -1, 8, 1},
            {0, 2, 7, 1, 6, 0},
            {0, 2, 8, 0, 7, 1},
            {0, 2, 9, -1, 8, 1},
            {0, 2, 1, 1, 0, 0},
            {0, 4, 1, 1, 0, 0},
            {0, 4, 2, 1, 0, 0},
            {0, 4, 3, 1, 1, 0},
            {0, 4, 16, 0, 14, 2},
            {3, 3, 15, 0, 14, 1},
            {3, 3, 16, -1, 15, 2},
            {0, 8, 60, -1, 56, 7}};
        for (int[] row : rows) {
            ThirteenthDay x = Worlds.camp();
            if (row[0] > 0) {
                Worlds.send(x, 0, row[0], 1);
            }
            if (row[1] > 0) {
                Worlds.send(x, 1, row[1], 1);
            }
            if (row[2] > 0) {
                x.foe(0, 1, 1, row[2]);
            }
            Worlds.passTo(x, 143);
            String what = "fight: " + row[0] + " and 4 * " + row[1] + " against " + row[2] + ": ";
            check.is(what + "all are there", row[0] + row[1], x.ofSector(1, 2));
            check.is(what + "OWN", row[0] + 4 * row[1], x.ofSector(1, 3));
            x.pass(1);
            check.is(what + "GROUND", row[3], x.ofSector(1, 6));
            check.is(what + "FOE", row[4], x.ofSector(1, 4));
            check.is(what + "WOUNDED", row[5], x.ofSector(1, 9));
        }
    }

    /** Seven horse are 21, and 10 as they are HUNGRY on DAY 3 (20, 13, 6 and then too little). */
    private static void halfOfAHungrySector() {
        int[][] rows = {{0, 3, 0, 0}, {9, 3, 8, 1}, {10, 2, 9, 1}, {11, 1, 10, 1}, {60, 1, 59, 7}, {120, 1, 119, 10}};
        for (int[] row : rows) {
            ThirteenthDay x = Worlds.camp();
            Worlds.send(x, 2, 7, 0);
            for (int left = row[0]; left > 0; left -= 60) {
                x.foe(0, 0, 3, Math.min(60, left));
            }
            Worlds.passTo(x, 288);
            check.is("half: STORE", 6, x.ofSector(0, 7));
            check.is("half: GROUND", 2, x.ofSector(0, 6));
            Worlds.passTo(x, 432);
            String what = "half: against " + row[0] + ": ";
            check.is(what + "HUNGRY", 1, x.ofSector(0, 8));
            check.is(what + "GROUND", row[1], x.ofSector(0, 6));
            check.is(what + "FOE", row[2], x.ofSector(0, 4));
            check.is(what + "WOUNDED", row[3], x.ofSector(0, 9));
        }
    }

    /** GROUND (-5 to 5): 5 is the most, and one steps back from it; -5 is the least, and there it ends. */
    private static void groundFromMinus5To5() {
        ThirteenthDay x = Worlds.camp();
        Worlds.send(x, 0, 1, 0);
        x.foe(0, 0, 8, 2);
        x.foe(0, 1, 1, 1);
        int[] ground = {1, 2, 3, 4, 5, 5, 5, 4, 3, 2, 1, 0, -1, -2, -3, -4, -5, -5, -5, -5};
        for (int day = 1; day <= 20; day++) {
            Worlds.passTo(x, 144 * day);
            check.is("ground: DAY " + day, ground[day - 1], x.ofSector(0, 6));
            check.is("ground: LOST on DAY " + day, day >= 17 ? 1 : 0, x.ofSector(0, 11));
            check.is("ground: of nobody against one", -Math.min(5, day), x.ofSector(1, 6));
            check.is("ground: LOST of nobody", day >= 5 ? 1 : 0, x.ofSector(1, 11));
            check.is("ground: of nobody against nobody", 0, x.ofSector(2, 6));
        }
        check.is("ground: STORE of a SECTOR that is LOST since DAY 17", 3, x.ofSector(0, 7));
    }

    /** From the next DAY on nothing is done in it any more, but what would come counts as CAME, and is SEEN. */
    private static void whatComesToALostSector() {
        ThirteenthDay x = Worlds.camp();
        Worlds.send(x, 0, 1, 0);
        x.foe(0, 0, 1, 20);
        x.foe(0, 0, 5, 7);
        x.foe(0, 0, 6, 9);
        x.foe(1, 0, 1, 20);
        x.foe(1, 0, 5, 7);
        x.foe(1, 0, 6, 8);
        x.rumour(1);
        Worlds.passTo(x, 719);
        check.is("lost: not on DAY 4", 0, x.ofSector(0, 11));
        check.is("lost: FOE", 20, x.ofSector(0, 4));
        x.pass(1);
        check.is("lost: GROUND", -5, x.ofSector(0, 6));
        check.is("lost: LOST", 1, x.ofSector(0, 11));
        check.is("lost: on this DAY FOE still comes", 27, x.ofSector(0, 4));
        check.is("lost: and it is eaten", 15, x.ofSector(0, 7));
        check.is("lost: and fought", 5, x.ofSector(0, 9));
        Worlds.passTo(x, 864);
        check.is("lost: FOE stays", 27, x.ofSector(0, 4));
        check.is("lost: STORE stays", 15, x.ofSector(0, 7));
        check.is("lost: WOUNDED stay", 5, x.ofSector(0, 9));
        check.is("lost: GROUND stays", -5, x.ofSector(0, 6));
        check.is("lost: still guessed", 1, x.guess());
        Worlds.passTo(x, 1151);
        check.is("lost: SEEN up to DAY 5", 27, x.ofSector(0, 5));
        x.pass(1);
        check.is("lost: what would have come is SEEN", 36, x.ofSector(0, 5));
        check.is("lost: and counts for what is POSSIBLE", 0, x.guess());
        Worlds.send(x, 1, 8, 0);
        Worlds.passTo(x, 1440);
        check.is("lost: LOADS still come to it", 9, x.ofSector(0, 2));
        check.is("lost: but do not fight", 27, x.ofSector(0, 4));
        check.is("lost: for ever", 1, x.ofSector(0, 11));
    }

    /** Whether it is HUNGRY stays as well; SUPPLIES fill the STORE of a SECTOR that is LOST, TRAINS take WOUNDED. */
    private static void aLostSectorThatIsHungry() {
        ThirteenthDay x = Worlds.camp();
        Worlds.send(x, 1, 5, 0);
        x.foe(0, 0, 1, 60);
        x.foe(0, 0, 1, 60);
        int[][] due = {{15, 118, 15}, {10, 116, 29}, {5, 114, 43}, {0, 112, 57}, {0, 111, 67}, {0, 111, 67}};
        for (int day = 1; day <= 6; day++) {
            Worlds.passTo(x, 144 * day);
            check.is("lost, hungry: STORE on DAY " + day, due[day - 1][0], x.ofSector(0, 7));
            check.is("lost, hungry: FOE on DAY " + day, due[day - 1][1], x.ofSector(0, 4));
            check.is("lost, hungry: WOUNDED on DAY " + day, due[day - 1][2], x.ofSector(0, 9));
            check.is("lost, hungry: HUNGRY on DAY " + day, day >= 5 ? 1 : 0, x.ofSector(0, 8));
        }
        x.supply(0, x.many(0));
        x.pass(144);
        check.is("lost, hungry: STORE behind a SUPPLY", 24, x.ofSector(0, 7));
        check.is("lost, hungry: HUNGRY stays", 1, x.ofSector(0, 8));
        check.is("lost, hungry: 6 were taken home", 6, x.ofSector(0, 10));
        check.is("lost, hungry: WOUNDED", 61, x.ofSector(0, 9));
    }

    /** As it is DONE, a TRAIN takes up to 6 WOUNDED: all of 5 and 6, 6 of 7, none of none. */
    private static void upToSixWounded() {
        for (int wounded = 0; wounded <= 7; wounded++) {
            ThirteenthDay x = Worlds.camp();
            if (wounded > 0) {
                Worlds.send(x, 0, wounded, 0);
            }
            x.foe(0, 0, 1, 60);
            Worlds.passTo(x, 144);
            check.is("wounded: " + wounded, wounded, x.ofSector(0, 9));
            check.is("wounded: none was taken", 0, x.ofSector(0, 10));
            x.supply(1, 144);
            x.supply(0, 146);
            x.pass(4);
            check.is("wounded: of another SECTOR none is taken", wounded, x.ofSector(0, 9));
            check.is("wounded: the TRAIN of another SECTOR is DONE", 44, x.ofSector(1, 7));
            x.pass(1);
            check.is("wounded: DONE", 44 - (wounded == 0 ? 0 : wounded), x.ofSector(0, 7));
            check.is("wounded: left", Math.max(0, wounded - 6), x.ofSector(0, 9));
            check.is("wounded: taken home", Math.min(6, wounded), x.ofSector(0, 10));
            x.supply(0, 149);
            x.pass(10);
            check.is("wounded: none is left", 0, x.ofSector(0, 9));
            check.is("wounded: all were taken home", wounded, x.ofSector(0, 10));
        }
    }

    /** Of the SECTOR for which it went, though its UNIT has another one by then; it MARCHES to that as well. */
    private static void woundedOfTheSectorForWhichItWent() {
        ThirteenthDay x = Worlds.camp();
        for (int sector = 0; sector < 2; sector++) {
            Worlds.send(x, 0, 8, sector);
            x.foe(0, sector, 1, 60);
        }
        Worlds.passTo(x, 144);
        Worlds.send(x, 3, 2, 0);
        x.pass(9);
        check.is("went: one has gone", 1, x.ofUnit(2, 7));
        x.aim(0, 2, 1);
        check.is("went: the other one changes", 1, x.change(0));
        int road = x.ofSector(1, 12);
        x.pass(8);
        check.is("went: WOUNDED", 7, x.ofSector(0, 9));
        x.pass(1);
        check.is("went: DONE", 3, x.ofTrain(16, 2));
        check.is("went: WOUNDED that are left", 1, x.ofSector(0, 9));
        check.is("went: WOUNDED that were taken home", 6, x.ofSector(0, 10));
        check.is("went: WOUNDED of the other SECTOR", 7, x.ofSector(1, 9));
        check.is("went: none of these was taken home", 0, x.ofSector(1, 10));
        check.is("went: the ROAD", 166, x.ofSector(0, 12));
        check.is("went: the ROAD of the other SECTOR", road, x.ofSector(1, 12));
        x.pass(6);
        check.is("went: it is at the SECTOR for which it went", 9, x.ofSector(0, 2));
        check.is("went: not at the other one", 8, x.ofSector(1, 2));
    }

    /** SECTORS do not touch each other: STORES, fights and WOUNDED are those of each. */
    private static void sectorBySector() {
        ThirteenthDay x = Worlds.camp();
        x.railhead(2, 0, 6);
        Worlds.send(x, 1, 4, 0);
        Worlds.send(x, 1, 2, 1);
        Worlds.send(x, 4, 1, 2);
        for (int sector = 0; sector < 3; sector++) {
            x.foe(0, sector, 1, 16);
        }
        Worlds.passTo(x, 144);
        int[][] due = {{16, 14, 0, 2}, {18, 15, -1, 2}, {23, 16, -1, 0}};
        for (int sector = 0; sector < 3; sector++) {
            check.is("each: STORE", due[sector][0], x.ofSector(sector, 7));
            check.is("each: FOE", due[sector][1], x.ofSector(sector, 4));
            check.is("each: GROUND", due[sector][2], x.ofSector(sector, 6));
            check.is("each: WOUNDED", due[sector][3], x.ofSector(sector, 9));
            check.is("each: HUNGRY", 0, x.ofSector(sector, 8));
        }
    }
}
