import java.math.BigInteger;

/** Section 0 and 7, "at most 512 calls", and promises 34 to 39: what bounds time, calls and the checksum. */
public final class TimeBoundsTest {
    private static final Check check = new Check("TimeBoundsTest");
    private static final int NONE = -1;

    public static void main(String[] args) {
        daysAndTicks();
        everyPassThereIs();
        onePassIsMany();
        fiveHundredAndTwelveCalls();
        loadsComeAheadOfTheDay();
        theDayIsAheadOfTrains();
        depotsAreAheadOfLoadsThatGo();
        wiresAreAheadOfDepots();
        sumsOfWires();
        sumsOfANewObject();
        sumsAtTheirMost();
        theKey();
        textsOfTwoDigits();
        checksumsWrapAround();
        theForecastOfTheChecksum();
        isSoundAtEveryTick();
        check.end();
    }

    /** TICK is 0 at first, 2880 at most; DAY is TICK / 144, rounded toward 0. */
    private static void daysAndTicks() {
        ThirteenthDay x = new ThirteenthDay();
        check.is("day: TICK at first", 0, x.many(0));
        check.is("day: DAY at first", 0, x.many(1));
        for (int day = 1; day <= 20; day++) {
            check.is("day: the last TICK of it", 144 * day - 1, x.pass(143));
            check.is("day: DAY", day - 1, x.many(1));
            check.is("day: the first TICK of it", 144 * day, x.pass(1));
            check.is("day: DAY", day, x.many(1));
        }
        check.is("day: TICK at last", 2880, x.many(0));
    }

    /** ticks is 1 to 144, and TICK not above 2880 by that. */
    private static void everyPassThereIs() {
        for (int ticks = 1; ticks <= 144; ticks++) {
            Twin t = new Twin(check, "pass " + ticks);
            int good = ticks;
            t.tell(x -> {
                Worlds.passTo(x, 2880 - good);
                return x.many(0);
            });
            if (good < 144) {
                t.noTime("one TICK above 2880", x -> x.pass(good + 1));
                t.noTime("a DAY", x -> x.pass(144));
            }
            t.is("just to 2880", 2880, x -> x.pass(good));
            t.noTime("no TICK is left", x -> x.pass(1));
        }
    }

    /** Letting TICKS go by at once or one by one is the same. */
    private static void onePassIsMany() {
        ThirteenthDay x = new ThirteenthDay();
        ThirteenthDay y = new ThirteenthDay();
        Worlds.busy(x);
        Worlds.busy(y);
        int[] steps = {1, 2, 3, 7, 50, 144};
        for (int step : steps) {
            x.pass(step);
            for (int k = 0; k < step; k++) {
                y.pass(1);
            }
            check.is("pass: at once or one by one", x.digest(), y.digest());
        }
    }

    /** An object is used for at most 512 calls: the 512th is answered as the first ones are. */
    private static void fiveHundredAndTwelveCalls() {
        ThirteenthDay x = new ThirteenthDay();
        SecondOpinion y = new SecondOpinion();
        check.is("512: land", y.land(2, 1), x.land(2, 1));
        check.is("512: railhead", y.railhead(0, 5, 20), x.railhead(0, 5, 20));
        check.is("512: unit", y.unit(1, 8, 0, 0), x.unit(1, 8, 0, 0));
        check.is("512: order", y.order(1), x.order(1));
        check.is("512: plan", y.plan(0, 9), x.plan(0, 9));
        for (int call = 6; call <= 511; call++) {
            switch (call % 6) {
                case 0: check.is("512: pass", y.pass(4), x.pass(4)); break;
                case 1: check.is("512: key", y.key(), x.key()); break;
                case 2: check.is("512: rumour", y.rumour(2), x.rumour(2)); break;
                case 3: check.is("512: forecast", y.forecast(0, 13), x.forecast(0, 13)); break;
                case 4: check.is("512: digest", y.digest(), x.digest()); break;
                default: check.is("512: guess", y.guess(), x.guess()); break;
            }
        }
        check.is("512: the last call", y.digest(), x.digest());
    }

    /** LOADS that come to their SECTOR, then the DAY: they eat and fight on it; a TICK later they do not. */
    private static void loadsComeAheadOfTheDay() {
        for (int late = 0; late < 2; late++) {
            ThirteenthDay x = Worlds.camp();
            x.unit(1, 1, 0, 0);
            x.plan(0, 135 + late);
            x.order(1);
            x.foe(0, 0, 1, 4);
            x.pass(144);
            check.is("comes: LOADS", 1 - late, x.ofSector(0, 2));
            check.is("comes: STORE", 19 + late, x.ofSector(0, 7));
            check.is("comes: GROUND", -late, x.ofSector(0, 6));
        }
    }

    /** The DAY is ahead of TRAINS that are DONE at its TICK: their SUPPLY is not eaten of, WOUNDED of it go home. */
    private static void theDayIsAheadOfTrains() {
        for (int early = 0; early < 2; early++) {
            ThirteenthDay x = Worlds.camp();
            Worlds.send(x, 1, 8, 0);
            x.foe(0, 0, 1, 60);
            Worlds.passTo(x, 130);
            x.supply(0, 141 - early);
            Worlds.passTo(x, 143);
            check.is("day: the SUPPLY", early == 1 ? 44 : 20, x.ofSector(0, 7));
            x.pass(1);
            check.is("day: eaten of by 8", 36, x.ofSector(0, 7));
            check.is("day: WOUNDED of this DAY", early == 1 ? 7 : 1, x.ofSector(0, 9));
            check.is("day: taken home by the TRAIN", early == 1 ? 0 : 6, x.ofSector(0, 10));
        }
    }

    /** What is READY by the work of a TICK can go at once, and MOVES in that TICK. */
    private static void depotsAreAheadOfLoadsThatGo() {
        ThirteenthDay x = Worlds.chain(2, 3, 5, 1, true, 0);
        x.railhead(0, 1, 6);
        x.unit(0, 2, 0, 0);
        x.plan(0, 0);
        x.order(1);
        int[] gone = {0, 0, 0, 0, 0, 1, 1, 1, 1, 1, 1, 2};
        for (int k = 0; k < gone.length; k++) {
            x.pass(1);
            check.is("go: READY at " + (k + 1), gone[k], x.ofUnit(0, 6));
            check.is("go: gone at " + (k + 1), gone[k], x.ofUnit(0, 7));
        }
        check.is("go: the second one is on its BLOCK", "1 staff 0/1 on 0.0", x.tell(1));
    }

    /** CALLED at a TICK, a LOAD has its first TICK of work with it. */
    private static void wiresAreAheadOfDepots() {
        for (int home = 0; home <= 3; home++) {
            int called = home == 0 ? 1 : 3 * home;
            ThirteenthDay x = Worlds.chain(4, 3, 5, 1, true, 0);
            x.unit(0, 1, home, 0);
            x.order(1);
            Worlds.passTo(x, called + 4);
            check.is("depot: CALLED", called, x.ofUnit(0, 5));
            check.is("depot: 5 TICKS of work", 0, x.ofUnit(0, 6));
            x.pass(1);
            check.is("depot: 6 TICKS of work", 1, x.ofUnit(0, 6));
        }
    }

    /** For each UNIT one to ORDER it, till it is there, and one to STOP it. */
    private static void sumsOfWires() {
        ThirteenthDay x = Worlds.chain(3, 3, 5, 1, true, 0);
        for (int unit = 0; unit < 6; unit++) {
            x.unit(0, 1, unit % 3, 0);
        }
        check.is("wires: none", 0, x.many(11));
        x.order(63);
        check.is("wires: six", 6, x.many(11));
        for (int unit = 0; unit < 6; unit++) {
            x.stop(unit);
            check.is("wires: and one to STOP it", 7 + unit, x.many(11));
        }
        int[] due = {8, 8, 4, 4, 4, 0, 0};
        for (int k = 0; k < due.length; k++) {
            x.pass(1);
            check.is("wires: at " + (k + 1), due[k], x.many(11));
        }
    }

    private static void sumsOfANewObject() {
        ThirteenthDay x = new ThirteenthDay();
        for (int what = 0; what <= 12; what++) {
            check.is("new: many(" + what + ")", 0, x.many(what));
        }
        check.is("new: guess", 0, x.guess());
        check.is("new: sound", true, x.isSound());
        check.is("new: balance", 0, x.balance(0, 0));
    }

    /** Ten STATIONS, 14 LINES, 6 UNITS, 60 TRAINS, 6 SUPPLIES, 12 wires and 18 of the foe; 48 and 6 PATHS. */
    private static void sumsAtTheirMost() {
        ThirteenthDay x = new ThirteenthDay();
        for (int k = 0; k < 10; k++) {
            x.station(3, 5, 9, true);
        }
        for (int k = 0; k < 14; k++) {
            x.line(k % 9, k % 9 + 1, 1, true, 0);
        }
        x.railhead(0, 0, 6);
        for (int unit = 0; unit < 6; unit++) {
            x.unit(0, 8, 0, 0);
            x.plan(unit, 0);
        }
        for (int k = 0; k < 18; k++) {
            x.foe(k % 3, 1, 20, 1);
        }
        for (int k = 0; k < 6; k++) {
            x.supply(0, 40);
        }
        x.order(63);
        for (int unit = 0; unit < 6; unit++) {
            x.stop(unit);
        }
        int[] due = {0, 0, 10, 14, 6, 0, 0, 54, 6, 0, 0, 12, 18};
        for (int what = 0; what <= 12; what++) {
            check.is("most: many(" + what + ")", due[what], x.many(what));
        }
        x.pass(1);
        int[] then = {1, 0, 10, 14, 6, 0, 0, 6, 6, 0, 0, 0, 18};
        for (int what = 0; what <= 12; what++) {
            check.is("most: all are STOPPED: many(" + what + ")", then[what], x.many(what));
        }
    }

    /** Who knocks holds nothing, and is counted. */
    private static void theKey() {
        Twin t = new Twin(check, "key");
        t.tell(Worlds::busy);
        t.is("the second knock", 2, x -> x.key());
        for (int k = 3; k <= 300; k++) {
            int due = k;
            t.is("a further knock", due, x -> x.key());
        }
        ThirteenthDay x = new ThirteenthDay();
        long before = x.digest();
        check.is("key: the first knock", 1, x.key());
        check.is("key: holds nothing", before, x.digest());
    }

    private static void textsOfTwoDigits() {
        ThirteenthDay x = new ThirteenthDay();
        for (int k = 0; k < 2; k++) {
            x.station(3, 5, 9, false);
        }
        for (int k = 0; k < 14; k++) {
            x.line(1, 0, 5, true, 2);
        }
        for (int k = 0; k < 13; k++) {
            x.bridge(k);
        }
        x.railhead(2, 1, 6);
        for (int unit = 0; unit < 6; unit++) {
            x.unit(unit % 5, 8, 0, 2);
            x.plan(unit, 40 * unit);
        }
        x.order(63);
        String[] words = {"staff", "foot", "horse", "guns", "bakery"};
        boolean[] isSeen = new boolean[4];
        for (int k = 0; k < 14; k++) {
            x.pass(29);
            int trains = k < 10 ? 0 : x.many(5);
            for (int train = k % 3; train < trains; train += 3) {
                int how = x.ofTrain(train, 2);
                int where = x.ofTrain(train, 3);
                isSeen[how] = true;
                String[] place = {"at " + where, "on 13." + x.ofTrain(train, 4), "unloads at " + where, "done"};
                int unit = x.ofTrain(train, 0);
                String due = train + " " + words[unit % 5] + " " + unit + "/" + x.ofTrain(train, 1);
                check.is("tell", due + " " + place[how], x.tell(train));
            }
        }
        check.is("tell: TRAINS of two digits were told", true, x.many(5) > 9);
        check.is("tell: on BLOCKS and DONE", true, isSeen[1] && isSeen[3]);
    }

    /** d becomes d * 31 + v, which wraps around as a 64-bit integer. */
    private static void checksumsWrapAround() {
        int negative = 0;
        int positive = 0;
        for (int k = 0; k < 20; k++) {
            ThirteenthDay x = new ThirteenthDay();
            if (k > 0) {
                Worlds.busy(x);
                x.pass(7 * k);
            }
            BigInteger due = Checksum.of(x);
            check.is("digest: wrapped around", due.longValue(), x.digest());
            check.is("digest: it has wrapped around", true, due.bitLength() > 64);
            negative += due.longValue() < 0 ? 1 : 0;
            positive += due.longValue() > 0 ? 1 : 0;
        }
        check.is("digest: below and above 0", true, negative > 0 && positive > 0);
    }

    /** forecast() of the DAY 13: one LOAD comes just by its begin, another one a TICK later. */
    private static void theForecastOfTheChecksum() {
        ThirteenthDay x = Worlds.camp();
        for (int sector = 0; sector < 2; sector++) {
            x.unit(1, 2, 0, sector);
            x.plan(sector, 1862);
            check.is("digest: by DAY 12", 0, x.forecast(sector, 12));
            check.is("digest: by DAY 13", 4, x.forecast(sector, 13));
            check.is("digest: by DAY 14", 8, x.forecast(sector, 14));
            check.is("digest: of DAY 13", Checksum.of(x).longValue(), x.digest());
        }
    }

    private static void isSoundAtEveryTick() {
        ThirteenthDay x = new ThirteenthDay();
        Worlds.busy(x);
        for (int k = 0; k < 200; k++) {
            int tick = x.pass(1);
            check.is("sound: at " + tick, true, x.isSound());
        }
    }
}
