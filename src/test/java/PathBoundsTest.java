/** Section 3: what bounds PATHS, plans and VARIANTS, and what holds where there is none. */
public final class PathBoundsTest {
    private static final Check check = new Check("PathBoundsTest");
    private static final int NONE = -1;
    private static final int NO_WAY = -2;
    private static final int NO_RAMP = -3;

    public static void main(String[] args) {
        aPathTickByTick();
        aPathWithoutLines();
        aPathThereAndOneBack();
        aPaceApart();
        theOtherDirectionOfASingleLine();
        onDifferentLines();
        theNinthLineOfAWay();
        theyPassEachOtherAtAStation();
        asManyAsThereAreRamps();
        rampsAreSharedByAll();
        theLastStartAtRamps();
        theLastStartOnALine();
        theFirstFouledLineOfTheWay();
        whatIsFoundAtTheLastTicks();
        nothingIsKept();
        whatIsDroppedIsNotInTheWay();
        whenAUnitMayBePlanned();
        couldIsPlanBehindDrop();
        pathsAreKeptTillDone();
        plannedCountsWhatIsKept();
        aims();
        fromTickAnd36On();
        firstAllAreDroppedThenPlanned();
        itsOwnAreDroppedToo();
        whoIsToChange();
        allOrNothing();
        noRailheadToChangeTo();
        variantsOfNobody();
        check.end();
    }

    /** HOME and RAILHEAD of SECTORS 0 and 1 are one STATION, so that RAMPS alone bound PATHS. */
    private static ThirteenthDay yard(int ramps) {
        ThirteenthDay x = new ThirteenthDay();
        x.station(ramps, 5, 9, false);
        x.railhead(0, 0, 6);
        x.railhead(1, 0, 6);
        return x;
    }

    /** On each BLOCK for PACE TICKS; in the TICK behind a LINE it stands; the TICK behind the last one it ARRIVES. */
    private static void aPathTickByTick() {
        ThirteenthDay x = new ThirteenthDay();
        for (int k = 0; k < 4; k++) {
            x.station(1, 0, 9, false);
        }
        x.line(0, 1, 1, false, 0);
        x.line(2, 1, 2, true, 2);
        x.line(2, 3, 3, false, 1);
        x.railhead(0, 3, 6);
        x.unit(0, 1, 0, 0);
        check.is("path: START", 50, x.plan(0, 50));
        check.is("path: ARRIVES", 50 + 2 + 1 + 8 + 1 + 9, x.path(0, 0, 1));
        check.is("path: LINES", 3, x.path(0, 0, 2));
        for (int tick = 45; tick <= 75; tick++) {
            check.is("path: LINE 0 at " + tick, tick >= 50 && tick <= 51 ? 1 : 0, x.planned(0, tick));
            check.is("path: LINE 1 at " + tick, tick >= 53 && tick <= 60 ? 1 : 0, x.planned(1, tick));
            check.is("path: LINE 2 at " + tick, tick >= 62 && tick <= 70 ? 1 : 0, x.planned(2, tick));
        }
    }

    /** START, without any LINE; a RAMP from the next TICK on for as many TICKS as unloading takes. */
    private static void aPathWithoutLines() {
        int[] unloading = {2, 3, 6, 9, 4};
        for (int kind = 0; kind <= 4; kind++) {
            ThirteenthDay x = yard(1);
            x.unit(kind, 8, 0, 0);
            check.is("no LINES: START of the last", 5 + 7 * unloading[kind], x.plan(0, 5));
            for (int load = 0; load < 8; load++) {
                check.is("no LINES: START", 5 + load * unloading[kind], x.path(0, load, 0));
                check.is("no LINES: ARRIVES", 5 + load * unloading[kind], x.path(0, load, 1));
                check.is("no LINES: LINES", 0, x.path(0, load, 2));
            }
        }
    }

    /** The way from HOME to the RAILHEAD: by LINE 1 there, by LINES 0 and 2 back. */
    private static void aPathThereAndOneBack() {
        ThirteenthDay x = Worlds.anotherWayBack();
        x.railhead(0, 3, 6);
        x.railhead(1, 0, 6);
        x.unit(0, 1, 0, 0);
        x.unit(0, 1, 3, 1);
        check.is("there and back: START", 20, x.plan(0, 20));
        check.is("there and back: START of the other one", 20, x.plan(1, 20));
        check.is("there: LINES", 1, x.path(0, 0, 2));
        check.is("there: ARRIVES", 24, x.path(0, 0, 1));
        check.is("back: LINES", 2, x.path(1, 0, 2));
        check.is("back: ARRIVES", 25, x.path(1, 0, 1));
        x.order(3);
        x.pass(20);
        check.is("there: the TRAIN", "0 staff 0/0 on 1.0", x.tell(0));
        check.is("back: the TRAIN", "1 staff 1/0 on 0.0", x.tell(1));
        x.pass(20);
        int[] through = {1, 1, 1};
        for (int line = 0; line < 3; line++) {
            check.is("there and back: came through " + line, through[line], x.ofLine(line, 6));
        }
    }

    /** No TICK in which two are on one BLOCK: PACE TICKS apart they are not, one TICK less and they are. */
    private static void aPaceApart() {
        for (int grade = 0; grade <= 2; grade++) {
            for (int twin = 0; twin < 2; twin++) {
                int pace = 2 + grade;
                ThirteenthDay x = Worlds.chain(2, 3, 5, 3, twin == 1, grade);
                x.railhead(0, 1, 6);
                x.unit(0, 1, 0, 0);
                x.unit(0, 1, 0, 0);
                x.plan(0, 100);
                check.is("pace: just ahead", 100 - pace, x.could(1, 100 - pace));
                check.is("pace: a TICK too late", 100 + pace, x.could(1, 101 - pace));
                check.is("pace: at one TICK", 100 + pace, x.could(1, 100));
                check.is("pace: a TICK too early", 100 + pace, x.could(1, 99 + pace));
                check.is("pace: just behind", 100 + pace, x.could(1, 100 + pace));
            }
        }
    }

    /** On a single LINE none anywhere on it in the other direction; on a double one they do not FOUL. */
    private static void theOtherDirectionOfASingleLine() {
        for (int blocks = 1; blocks <= 5; blocks++) {
            for (int twin = 0; twin < 2; twin++) {
                int ticks = blocks * 3;
                ThirteenthDay x = Worlds.chain(2, 3, 5, blocks, twin == 1, 1);
                x.railhead(0, 1, 6);
                x.railhead(1, 0, 6);
                x.unit(0, 1, 0, 0);
                x.unit(0, 1, 1, 1);
                x.plan(0, 100);
                check.is("other: off it just in time", 100 - ticks, x.could(1, 100 - ticks));
                check.is("other: a TICK too late", twin == 1 ? 101 - ticks : 100 + ticks, x.could(1, 101 - ticks));
                check.is("other: a TICK too early", twin == 1 ? 99 + ticks : 100 + ticks, x.could(1, 99 + ticks));
                check.is("other: behind it", 100 + ticks, x.could(1, 100 + ticks));
            }
        }
    }

    /** Two that are at one TICK on different LINES, or at one STATION between these, do not FOUL. */
    private static void onDifferentLines() {
        ThirteenthDay x = new ThirteenthDay();
        for (int k = 0; k < 4; k++) {
            x.station(3, 5, 9, false);
        }
        for (int k = 0; k < 3; k++) {
            x.line(k, 3, 2, false, 0);
        }
        for (int sector = 0; sector < 3; sector++) {
            x.railhead(sector, (sector + 1) % 3, 6);
            x.unit(0, 1, sector, sector);
        }
        check.is("different: over 0 and 1", 100, x.plan(0, 100));
        check.is("different: over 1 and 2, each 5 TICKS ahead of or behind the other one", 100, x.plan(1, 100));
        check.is("different: over 2 and 0", 100, x.plan(2, 100));
        check.is("different: sound", true, x.isSound());
        for (int line = 0; line < 3; line++) {
            for (int tick = 99; tick <= 110; tick++) {
                int due = tick >= 100 && tick <= 103 || tick >= 105 && tick <= 108 ? 1 : 0;
                check.is("different: LINE " + line + " at " + tick, due, x.planned(line, tick));
            }
        }
    }

    /** The longest way there is has 9 LINES: it may FOUL on its last one alone. */
    private static void theNinthLineOfAWay() {
        ThirteenthDay x = Worlds.chain(10, 3, 5, 1, false, 0);
        x.railhead(0, 9, 6);
        x.railhead(1, 8, 6);
        x.unit(0, 1, 8, 0);
        x.unit(0, 1, 0, 0);
        x.unit(0, 1, 9, 1);
        check.is("ninth: LINE 8 alone", 124, x.plan(0, 124));
        check.is("ninth: LINE 8 at 122", 98, x.could(1, 98));
        check.is("ninth: LINE 8 at 123 to 125 FOULS", 102, x.could(1, 99));
        check.is("ninth: LINE 8 at 126", 102, x.plan(1, 102));
        check.is("ninth: ARRIVES", 128, x.path(1, 0, 1));
        check.is("ninth: LINES", 9, x.path(1, 0, 2));
        for (int line = 0; line < 9; line++) {
            for (int tick = 100; tick < 130; tick++) {
                int enters = 102 + 3 * line;
                int due = tick == enters || tick == enters + 1 || line == 8 && (tick == 124 || tick == 125) ? 1 : 0;
                check.is("ninth: LINE " + line + " at " + tick, due, x.planned(line, tick));
            }
        }
        check.is("ninth: the other direction, ahead", 122, x.could(2, 122));
        check.is("ninth: the other direction, behind both", 128, x.could(2, 123));
    }

    /** Over 0 1 2 on TICKS 100 to 108 and back: on LINE 1 from s, on LINE 0 from s + 5. */
    private static void theyPassEachOtherAtAStation() {
        ThirteenthDay x = Worlds.chain(3, 3, 5, 2, false, 0);
        x.railhead(0, 2, 6);
        x.railhead(1, 0, 6);
        x.unit(0, 1, 0, 0);
        x.unit(0, 1, 2, 1);
        x.plan(0, 100);
        check.is("pass: ahead of it on both", 91, x.could(1, 91));
        check.is("pass: the first at which they pass at 1", 99, x.could(1, 92));
        check.is("pass: in the midst", 100, x.could(1, 100));
        check.is("pass: the last at which they pass at 1", 101, x.could(1, 101));
        check.is("pass: behind it on both", 109, x.could(1, 102));
    }

    /** No TICK in which more of them have a RAMP of a STATION than it has RAMPS; LOADS 1 behind one another. */
    private static void asManyAsThereAreRamps() {
        int[][] due = {{0, 9, 18, 27, 36, 45, 54, 63}, {0, 1, 9, 10, 18, 19, 27, 28}, {0, 1, 2, 9, 10, 11, 18, 19}};
        for (int ramps = 1; ramps <= 3; ramps++) {
            ThirteenthDay x = yard(ramps);
            x.unit(3, 8, 0, 0);
            check.is("ramps: START of the last", due[ramps - 1][7], x.plan(0, 0));
            for (int load = 0; load < 8; load++) {
                check.is("ramps: START", due[ramps - 1][load], x.path(0, load, 0));
            }
        }
    }

    /** RAMPS are those of a STATION: PATHS for another SECTOR, of another HOME and of SUPPLIES have them too. */
    private static void rampsAreSharedByAll() {
        ThirteenthDay x = Worlds.chain(2, 1, 5, 1, true, 0);
        x.railhead(0, 0, 6);
        x.railhead(1, 0, 6);
        x.unit(2, 1, 1, 1);
        x.unit(3, 1, 0, 0);
        check.is("shared: ARRIVES at 22", 20, x.plan(0, 20));
        check.is("shared: TICKS 14 to 22 ahead of 23", 13, x.could(1, 13));
        check.is("shared: one TICK more", 28, x.could(1, 14));
        check.is("shared: a SUPPLY ahead", 19, x.supply(0, 19));
        check.is("shared: a SUPPLY behind", 28, x.supply(1, 20));
        check.is("shared: ahead of the SUPPLY", 10, x.could(1, 10));
        check.is("shared: behind both SUPPLIES", 31, x.could(1, 11));
    }

    /** Up to 288 behind that TICK: 288 there is, 289 is too late; -3, if it FOULS on no LINE. */
    private static void theLastStartAtRamps() {
        Twin t = new Twin(check, "288 at RAMPS");
        t.tell(x -> x.station(1, 5, 9, false));
        t.tell(x -> x.railhead(0, 0, 6));
        for (int k = 0; k < 4; k++) {
            int unit = k;
            t.is("number", unit, x -> x.unit(3, 8, 0, 0));
            t.is("START of the last", 72 * unit + 63, x -> x.plan(unit, 0));
        }
        t.is("one LOAD", 4, x -> x.unit(0, 1, 0, 0));
        t.is("two LOADS", 5, x -> x.unit(3, 2, 0, 0));
        t.is("288 behind 0", 288, x -> x.could(4, 0));
        t.is("a SUPPLY would be too", 288, x -> x.could(4, 1));
        t.asks("a further LOAD finds none", x -> x.plan(5, 0));
        t.is("a further LOAD finds none", NO_RAMP, x -> x.could(5, 0));
        t.is("297 is 289 behind 8", NO_RAMP, x -> x.could(5, 8));
        t.is("297 is 288 behind 9", 297, x -> x.could(5, 9));
        t.is("288 is kept", 288, x -> x.plan(4, 0));
        t.asks("290 is 289 behind 1", x -> x.plan(5, 1));
        t.asks("a SUPPLY, 290 is 289 behind 1", x -> x.supply(0, 1));
        t.is("290 is 289 behind 1", NO_RAMP, x -> x.supply(0, 1));
        t.is("no SUPPLY was sent", 0, x -> x.many(8));
        t.is("290 is 288 behind 2", 290, x -> x.supply(0, 2));
        t.is("kept", 34, x -> x.many(7));
        t.liveOn();
    }

    /** 32 LOADS one each 9 TICKS over one LINE (the last of 14, or the only one), so that none can go back. */
    private static Twin fullLine(int lines) {
        Twin t = new Twin(check, "full LINE " + (lines - 1));
        t.tell(x -> x.station(1, 5, 9, false));
        t.tell(x -> x.station(1, 5, 9, false));
        for (int k = 0; k < lines; k++) {
            t.tell(x -> x.line(0, 1, 5, false, 2));
        }
        for (int k = 0; k < lines - 1; k++) {
            int line = k;
            t.tell(x -> x.bridge(line));
        }
        t.tell(x -> x.railhead(0, 1, 6));
        t.tell(x -> x.railhead(1, 0, 6));
        for (int k = 0; k < 4; k++) {
            int unit = k;
            t.tell(x -> x.unit(3, 8, 0, 0));
            t.is("START of the last", 72 * unit + 63, x -> x.plan(unit, 0));
        }
        return t;
    }

    /** -10, less the number of the LINE: -10 for LINE 0, -23 for LINE 13; 279 and 20 is the first START. */
    private static void theLastStartOnALine() {
        for (int lines = 1; lines <= 14; lines += 13) {
            int line = lines - 1;
            Twin t = fullLine(lines);
            t.tell(x -> x.unit(0, 1, 1, 1));
            t.tell(x -> x.unit(0, 2, 1, 1));
            t.asks("none from 0 on", x -> x.plan(4, 0));
            t.is("none from 0 on", -10 - line, x -> x.could(4, 0));
            t.is("299 is 289 behind 10", -10 - line, x -> x.plan(4, 10));
            t.is("299 is 288 behind 11", 299, x -> x.could(4, 11));
            t.is("303 is 289 behind 14, of a further LOAD", -10 - line, x -> x.plan(5, 14));
            t.is("303 is 288 behind 15, of a further LOAD", 303, x -> x.could(5, 15));
            t.is("303 would be 292 behind 11", -10 - line, x -> x.plan(5, 11));
            t.is("none is kept but those", 32, x -> x.many(7));
            t.is("299", 299, x -> x.plan(4, 11));
            t.is("303, 307 behind the LOAD of another UNIT", 307, x -> x.plan(5, 19));
            t.liveOn();
        }
    }

    /** STATIONS 0 1 2; the way is LINE 5, then LINE 0, each of 20 TICKS; LINES 1 to 4 lead elsewhere. */
    private static ThirteenthDay twoLines() {
        ThirteenthDay x = new ThirteenthDay();
        for (int k = 0; k < 5; k++) {
            x.station(1, 5, 9, false);
        }
        x.line(1, 2, 5, false, 2);
        for (int k = 0; k < 4; k++) {
            x.line(3, 4, 1, false, 0);
        }
        x.line(0, 1, 5, false, 2);
        x.railhead(0, 2, 6);
        x.railhead(1, 0, 6);
        x.railhead(2, 1, 6);
        return x;
    }

    /** The first LINE of its way on which it FOULS with a START of tick and 288, not the one with the least number. */
    private static void theFirstFouledLineOfTheWay() {
        ThirteenthDay x = twoLines();
        for (int unit = 0; unit < 4; unit++) {
            x.unit(3, 8, 2, 1);
            x.plan(unit, 0);
        }
        x.unit(0, 1, 0, 0);
        check.is("first: both are FOULED, 5 comes first", -15, x.could(4, 0));
        check.is("first: 319 FOULS on 5", -15, x.could(4, 31));
        check.is("first: 320", 320, x.could(4, 32));
        ThirteenthDay y = twoLines();
        for (int unit = 0; unit < 4; unit++) {
            y.unit(3, 8, 2, 2);
            y.plan(unit, 20);
        }
        y.unit(0, 1, 0, 0);
        check.is("first: 5 is free, 0 is FOULED", -10, y.could(4, 0));
        check.is("first: 297 FOULS on 0", -10, y.could(4, 9));
        check.is("first: 298", 298, y.could(4, 10));
    }

    /** TICK 2880 at most to PLAN from; what begins behind it is kept as well. */
    private static void whatIsFoundAtTheLastTicks() {
        Twin t = new Twin(check, "the last TICKS");
        t.tell(x -> x.station(1, 5, 9, false));
        t.tell(x -> x.railhead(0, 0, 6));
        for (int k = 0; k < 5; k++) {
            t.tell(x -> x.unit(3, 8, 0, 0));
        }
        for (int k = 0; k < 4; k++) {
            int unit = k;
            t.is("START of the last", 2880 + 72 * unit + 63, x -> x.plan(unit, 2880));
        }
        t.is("3168 at most", NO_RAMP, x -> x.plan(4, 2880));
        t.noWorth("from 2881", x -> x.plan(4, 2881));
        t.is("a SUPPLY at 3168", 3168, x -> x.supply(0, 2880));
        t.is("ahead of all", 2808 + 63, x -> x.could(4, 2808));
        t.liveOn();
    }

    private static void nothingIsKept() {
        Twin t = new Twin(check, "nothing is kept");
        t.tell(x -> x.station(1, 5, 9, false));
        t.tell(x -> x.station(1, 5, 9, false));
        t.tell(x -> x.railhead(0, 0, 6));
        t.tell(x -> x.railhead(1, 1, 6));
        for (int k = 0; k < 5; k++) {
            t.tell(x -> x.unit(3, 8, 0, 0));
        }
        for (int k = 0; k < 4; k++) {
            int unit = k;
            t.tell(x -> x.plan(unit, 3));
        }
        t.is("the second LOAD finds none", NO_RAMP, x -> x.plan(4, 3));
        for (int k = 0; k < 8; k++) {
            int load = k;
            t.is("no PATH", NONE, x -> x.path(4, load, 0));
        }
        t.is("PATHS", 32, x -> x.many(7));
        t.is("of the UNIT", 0, x -> x.ofUnit(4, 11));
        t.is("a UNIT that may not go there", 5, x -> x.unit(0, 8, 0, 1));
        t.is("without a way", NO_WAY, x -> x.plan(5, 0));
        t.is("a SUPPLY without a way", NO_WAY, x -> x.supply(1, 0));
        t.is("could, without a way", NO_WAY, x -> x.could(5, 2880));
        t.is("PATHS still", 32, x -> x.many(7));
        t.liveOn();
    }

    /** A PATH that is dropped has no BLOCK and no RAMP any more, from TICK 0 on. */
    private static void whatIsDroppedIsNotInTheWay() {
        ThirteenthDay x = yard(1);
        x.unit(3, 8, 0, 0);
        x.unit(3, 8, 0, 0);
        check.is("dropped: START of the last", 63, x.plan(0, 0));
        check.is("dropped: behind those that are kept", 72 + 63, x.could(1, 0));
        check.is("dropped: PATHS", 8, x.drop(0));
        check.is("dropped: in their place", 63, x.could(1, 0));
        check.is("dropped: kept in their place", 63, x.plan(1, 0));
        check.is("dropped: now these are ahead", 72 + 63, x.plan(0, 0));
        check.is("dropped: it FOULS none", true, x.isSound());
        ThirteenthDay y = Worlds.chain(2, 3, 5, 5, false, 2);
        y.railhead(0, 1, 6);
        y.railhead(1, 0, 6);
        y.unit(0, 1, 0, 0);
        y.unit(0, 1, 1, 1);
        check.is("dropped: START", 0, y.plan(0, 0));
        check.is("dropped: behind it", 20, y.could(1, 0));
        check.is("dropped: one", 1, y.drop(0));
        check.is("dropped: none on the LINE", 0, y.planned(0, 0));
        check.is("dropped: in its place", 0, y.plan(1, 0));
        check.is("dropped: the LINE is sound", true, y.isSound());
        check.is("dropped: now this is ahead", 20, y.plan(0, 0));
    }

    /** Not with a PATH of a LOAD that has not gone, STOPPED, all gone, or no RAILHEAD; with any other state. */
    private static void whenAUnitMayBePlanned() {
        Twin t = new Twin(check, "to be PLANNED");
        t.tell(x -> x.station(3, 5, 9, false));
        t.tell(x -> x.unit(0, 2, 0, 0));
        t.noTime("no RAILHEAD", x -> x.plan(0, 0));
        t.tell(x -> x.railhead(0, 0, 6));
        t.is("at PEACE", 1, x -> x.plan(0, 0));
        t.noTime("it has PATHS", x -> x.plan(0, 0));
        t.is("dropped", 2, x -> x.drop(0));
        t.is("nothing to drop", 0, x -> x.drop(0));
        t.tell(x -> x.order(1));
        t.is("ORDERED", 1, x -> x.plan(0, 0));
        t.tell(x -> x.pass(6));
        t.is("one has gone", 1, x -> x.ofUnit(0, 7));
        t.noTime("the other one has a PATH", x -> x.plan(0, 6));
        t.is("that is dropped", 1, x -> x.drop(0));
        t.is("that of the LOAD that has gone is not", 1, x -> x.many(7));
        t.is("CALLED, one has gone", 20, x -> x.plan(0, 20));
        t.tell(x -> x.pass(14));
        t.is("both have gone", 2, x -> x.ofUnit(0, 7));
        t.noTime("all have gone", x -> x.plan(0, 20));
        t.is("nothing to drop of what has gone", 0, x -> x.drop(0));
        t.tell(x -> x.unit(0, 1, 0, 0));
        t.tell(x -> x.order(2));
        t.tell(x -> x.stop(1));
        t.is("a wire to STOP it is on its way", 20, x -> x.plan(1, 20));
        t.tell(x -> x.pass(1));
        t.noTime("STOPPED", x -> x.plan(1, 21));
        t.is("nothing to drop of one that is STOPPED", 0, x -> x.drop(1));
        t.liveOn();
    }

    /** What plan() would tell, if its PATHS of LOADS that have not gone were dropped ahead of it. */
    private static void couldIsPlanBehindDrop() {
        for (int from = 40; from <= 120; from++) {
            ThirteenthDay x = new ThirteenthDay();
            Worlds.busy(x);
            for (int unit = 2; unit <= 3; unit++) {
                long before = x.digest();
                int due = x.could(unit, from);
                check.is("could: nothing is changed", before, x.digest());
                x.drop(unit);
                check.is("could: what plan() tells", due, x.plan(unit, from));
            }
        }
    }

    /** The PATH of a LOAD is kept till its TRAIN is DONE. */
    private static void pathsAreKeptTillDone() {
        ThirteenthDay x = Worlds.chain(2, 3, 5, 1, true, 0);
        x.railhead(0, 1, 6);
        x.unit(0, 1, 0, 0);
        x.plan(0, 10);
        x.order(1);
        x.pass(14);
        check.is("kept: unloaded now", 2, x.ofTrain(0, 2));
        check.is("kept: START", 10, x.path(0, 0, 0));
        check.is("kept: ARRIVES", 12, x.path(0, 0, 1));
        check.is("kept: LINES", 1, x.path(0, 0, 2));
        check.is("kept: planned, in a TICK that is gone by", 1, x.planned(0, 11));
        x.pass(1);
        check.is("kept: DONE", 3, x.ofTrain(0, 2));
        for (int what = 0; what <= 2; what++) {
            check.is("kept: no more", NONE, x.path(0, 0, what));
        }
        check.is("kept: not planned any more", 0, x.planned(0, 11));
        check.is("kept: no PATHS", 0, x.many(7));
    }

    /** PATHS that are kept: of LOADS, of TRAINS and of SUPPLIES, in both directions; any TICK may be asked for. */
    private static void plannedCountsWhatIsKept() {
        ThirteenthDay x = Worlds.chain(2, 3, 5, 5, true, 0);
        x.railhead(0, 1, 6);
        x.railhead(1, 0, 6);
        x.unit(0, 1, 0, 0);
        x.unit(0, 1, 1, 1);
        x.plan(0, 2880);
        x.plan(1, 2880);
        check.is("planned: a SUPPLY", 2882, x.supply(0, 2880));
        int[] ticks = {Integer.MIN_VALUE, -1, 0, 2879, 2880, 2881, 2882, 2889, 2890, 2891, 2892, Integer.MAX_VALUE};
        int[] due = {0, 0, 0, 0, 2, 2, 3, 3, 1, 1, 0, 0};
        for (int k = 0; k < ticks.length; k++) {
            check.is("planned: at " + ticks[k], due[k], x.planned(0, ticks[k]));
        }
        x.drop(0);
        check.is("planned: one is dropped", 2, x.planned(0, 2885));
    }

    /** Each VARIANT has an AIM for each UNIT: its own SECTOR as it was told, till another one is told. */
    private static void aims() {
        Twin t = new Twin(check, "aim");
        t.tell(x -> x.station(1, 0, 0, false));
        for (int k = 0; k < 6; k++) {
            int sector = k % 3;
            t.tell(x -> x.unit(0, 1, 0, sector));
        }
        for (int k = 0; k < 24; k++) {
            int unit = k % 6;
            int variant = k / 6;
            t.is("as it was told", unit % 3, x -> x.aim(variant, unit, (unit + variant) % 3));
        }
        for (int k = 0; k < 24; k++) {
            int unit = k % 6;
            int variant = k / 6;
            t.is("the one before", (unit + variant) % 3, x -> x.aim(variant, unit, 2));
            t.is("just told", 2, x -> x.aim(variant, unit, 2));
        }
        t.liveOn();
    }

    /** Each is PLANNED for its AIM from TICK and 36 on; at TICK 2808 still, at 2809 no more. */
    private static void fromTickAnd36On() {
        int[] ticks = {0, 1, 100, 2807, 2808};
        for (int tick : ticks) {
            ThirteenthDay x = yard(1);
            x.unit(0, 2, 0, 0);
            x.plan(0, 0);
            x.aim(3, 0, 1);
            Worlds.passTo(x, tick);
            check.is("36: what it would tell", 2, x.variant(3, 0));
            check.is("36: two LOADS", 2, x.change(3));
            check.is("36: START", tick + 36, x.path(0, 0, 0));
            check.is("36: START of the further one", tick + 38, x.path(0, 1, 0));
            check.is("36: its SECTOR", 1, x.ofUnit(0, 3));
        }
    }

    /** First PATHS of all of them are dropped, then each is PLANNED, one behind the other. */
    private static void firstAllAreDroppedThenPlanned() {
        for (int all = 0; all < 2; all++) {
            ThirteenthDay x = yard(1);
            x.unit(3, 1, 0, 0);
            x.unit(3, 1, 0, 0);
            x.plan(1, 36);
            x.aim(0, 0, 1);
            x.aim(0, 1, all);
            check.is("drop first: PATHS that stay", 1 - all, x.variant(0, 3));
            check.is("drop first: LOADS", 1 + all, x.change(0));
            check.is("drop first: START of 0", all == 1 ? 36 : 45, x.path(0, 0, 0));
            check.is("drop first: START of 1", all == 1 ? 45 : 36, x.path(1, 0, 0));
        }
    }

    /** Its own PATHS are not in its way either: 30 and 39 would leave no room ahead of 48. */
    private static void itsOwnAreDroppedToo() {
        for (int unit = 0; unit < 6; unit++) {
            ThirteenthDay x = yard(1);
            for (int k = 0; k <= unit; k++) {
                x.unit(3, 2, 0, 0);
            }
            check.is("its own: START of the last", 39, x.plan(unit, 30));
            x.aim(0, unit, 1);
            check.is("its own: LOADS", 2, x.change(0));
            check.is("its own: START of 0", 36, x.path(unit, 0, 0));
            check.is("its own: START of 1", 45, x.path(unit, 1, 0));
        }
    }

    /** Not those that are STOPPED, all of whose LOADS have gone, or whose SECTOR is their AIM; PEACE does not matter. */
    private static void whoIsToChange() {
        Twin t = new Twin(check, "to change");
        t.tell(x -> x.station(3, 5, 9, false));
        t.tell(x -> x.railhead(0, 0, 6));
        t.tell(x -> x.railhead(1, 0, 6));
        for (int k = 0; k < 5; k++) {
            int loads = k == 3 ? 3 : 1;
            t.tell(x -> x.unit(0, loads, 0, 0));
        }
        t.tell(x -> x.plan(1, 0));
        t.tell(x -> x.plan(3, 0));
        t.tell(x -> x.order(2 + 4 + 8));
        t.tell(x -> x.stop(2));
        t.tell(x -> x.pass(12));
        t.is("1 has gone", 1, x -> x.ofUnit(1, 7));
        t.is("2 is STOPPED", 3, x -> x.ofUnit(2, 4));
        t.is("one LOAD of 3 has gone", 1, x -> x.ofUnit(3, 7));
        for (int k = 0; k < 5; k++) {
            int unit = k;
            int aim = unit == 4 ? 0 : 1;
            t.tell(x -> x.aim(2, unit, aim));
        }
        t.is("UNITS: 0 at PEACE and 3", 2, x -> x.variant(2, 1));
        t.is("LOADS of these that have gone", 1, x -> x.variant(2, 2));
        t.is("PATHS that would stay", 1, x -> x.variant(2, 3));
        t.is("LOADS with new PATHS", 3, x -> x.variant(2, 0));
        t.is("nobody to change to 0", 0, x -> x.change(0));
        t.is("LOADS with new PATHS", 3, x -> x.change(2));
        int[] sectors = {1, 0, 0, 1, 0};
        int[] paths = {1, 0, 0, 3, 0};
        for (int k = 0; k < 5; k++) {
            int unit = k;
            t.is("SECTOR of " + unit, sectors[unit], x -> x.ofUnit(unit, 3));
            t.is("PATHS of " + unit, paths[unit], x -> x.ofUnit(unit, 11));
        }
        t.is("nobody is left to change", 0, x -> x.variant(2, 1));
        t.is("change once more", 0, x -> x.change(2));
        t.liveOn();
    }

    /** A full LINE, and UNITS 4 and 5 that are PLANNED for a RAILHEAD at HOME, with other AIMS over the LINE. */
    private static Twin twoUnitsOfAFullLine(int loads, int loadsOfTheOther) {
        Twin t = fullLine(1);
        t.tell(x -> x.unit(0, loads, 1, 0));
        t.tell(x -> x.unit(0, loadsOfTheOther, 1, 0));
        t.is("UNIT 4", 998 + 2 * loads, x -> x.plan(4, 1000));
        t.is("UNIT 5", 998 + 2 * loads + 2 * loadsOfTheOther, x -> x.plan(5, 1000));
        return t;
    }

    private static void canNotBe(Twin t, int variant, int due) {
        t.asks("change() that can not be", x -> x.change(variant));
        t.is("variant()", due, x -> x.variant(variant, 0));
        t.is("change()", due, x -> x.change(variant));
        t.is("PATHS as they were", 41, x -> x.many(7));
        t.is("START of 4", 1000, x -> x.path(4, 0, 0));
        t.is("START of 5", 1000 + 2 * (Integer) t.tell(x -> x.ofUnit(4, 1)), x -> x.path(5, 0, 0));
        t.is("SECTOR of 4", 0, x -> x.ofUnit(4, 3));
        t.is("SECTOR of 5", 0, x -> x.ofUnit(5, 3));
    }

    /** If one of them can not be, all stays as it was; told is that of the first one that can not. */
    private static void allOrNothing() {
        Twin t = twoUnitsOfAFullLine(8, 1);
        int[][] aims = {{1, 1}, {0, 1}, {2, 1}, {1, 2}};
        for (int k = 0; k < 8; k++) {
            int variant = k / 2;
            int unit = 4 + k % 2;
            t.tell(x -> x.aim(variant, unit, aims[variant][unit - 4]));
        }
        canNotBe(t, 0, -10);
        canNotBe(t, 2, NO_WAY);
        canNotBe(t, 3, -10);
        t.tell(x -> x.bridge(0));
        canNotBe(t, 0, NO_WAY);
        t.tell(x -> x.bridge(0));
        t.is("5 alone can", 1, x -> x.change(1));
        t.is("START of 5", 299, x -> x.path(5, 0, 0));
        t.liveOn();
        Twin u = twoUnitsOfAFullLine(1, 8);
        u.tell(x -> x.aim(0, 4, 1));
        u.tell(x -> x.aim(0, 5, 1));
        canNotBe(u, 0, -10);
        u.tell(x -> x.pass(6));
        canNotBe(u, 0, -10);
        u.tell(x -> x.pass(1));
        u.is("299 for 4, 303 to 331 for 5 are up to 7 and 36 and 288", 9, x -> x.change(0));
        u.is("START of 4", 299, x -> x.path(4, 0, 0));
        u.is("START of the last", 331, x -> x.path(5, 7, 0));
        u.is("SECTOR of 5", 1, x -> x.ofUnit(5, 3));
        u.liveOn();
    }

    private static void noRailheadToChangeTo() {
        Twin t = new Twin(check, "no RAILHEAD");
        t.tell(x -> x.station(3, 5, 9, false));
        t.tell(x -> x.railhead(0, 0, 6));
        t.tell(x -> x.railhead(1, 0, 6));
        t.tell(x -> x.unit(0, 2, 0, 0));
        t.tell(x -> x.unit(0, 2, 0, 0));
        t.tell(x -> x.plan(0, 0));
        t.tell(x -> x.plan(1, 0));
        t.tell(x -> x.aim(0, 0, 1));
        t.tell(x -> x.aim(0, 1, 2));
        t.is("as no way", NO_WAY, x -> x.variant(0, 0));
        t.is("UNITS", 2, x -> x.variant(0, 1));
        t.is("PATHS that would stay", 0, x -> x.variant(0, 3));
        t.asks("it can not be", x -> x.change(0));
        t.is("it can not be", NO_WAY, x -> x.change(0));
        t.is("SECTOR of the first one", 0, x -> x.ofUnit(0, 3));
        t.is("PATHS are as they were", 1, x -> x.path(0, 1, 0));
        t.tell(x -> x.railhead(2, 0, 6));
        t.is("with a RAILHEAD it can", 4, x -> x.change(0));
        t.liveOn();
    }

    /** Without UNITS, and with UNITS that are as they should be: nobody would have to change. */
    private static void variantsOfNobody() {
        ThirteenthDay x = yard(3);
        for (int units = 0; units <= 2; units++) {
            for (int variant = 0; variant <= 3; variant++) {
                check.is("nobody: change() would tell", 0, x.variant(variant, 0));
                check.is("nobody: UNITS", 0, x.variant(variant, 1));
                check.is("nobody: LOADS", 0, x.variant(variant, 2));
                check.is("nobody: PATHS", units, x.variant(variant, 3));
                check.is("nobody: change()", 0, x.change(variant));
            }
            x.unit(0, 1, 0, 0);
            x.plan(units, 0);
        }
    }
}
