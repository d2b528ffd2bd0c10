/** Sections 0 and 1: what bounds STATIONS, LINES and ways, and what holds where there is none. */
public final class LandBoundsTest {
    private static final Check check = new Check("LandBoundsTest");
    private static final int NONE = -1;

    public static void main(String[] args) {
        eachValueOfAStation();
        tenStations();
        eachValueOfALine();
        fourteenLines();
        aWholeLandAndMore();
        everyLand();
        wayToItself();
        noWay();
        theLongestWay();
        ofSeveralTheSmallestNumber();
        theLeastTimeIsNotTheLeastOfLines();
        theWayThereAndTheWayBack();
        bridges();
        aClosedLineIsGoneOnWith();
        oneTrainInABlock();
        bothDirections();
        doubleAndSingleLinesOfALand();
        check.end();
    }

    /** RAMPS (1 to 3), SIDINGS (0 to 5), ENGINES (0 to 9). */
    private static void eachValueOfAStation() {
        for (int ramps = 1; ramps <= 3; ramps++) {
            for (int sidings = 0; sidings <= 5; sidings++) {
                ThirteenthDay x = new ThirteenthDay();
                for (int engines = 0; engines <= 9; engines++) {
                    boolean isWater = (ramps + sidings + engines) % 2 == 0;
                    check.is("station: number", engines, x.station(ramps, sidings, engines, isWater));
                    check.is("station: RAMPS", ramps, x.ofStation(engines, 0));
                    check.is("station: SIDINGS", sidings, x.ofStation(engines, 1));
                    check.is("station: ENGINES", engines, x.ofStation(engines, 2));
                    check.is("station: water", isWater ? 1 : 0, x.ofStation(engines, 3));
                    check.is("station: no TRAINS", 0, x.ofStation(engines, 4));
                    check.is("station: none unloaded", 0, x.ofStation(engines, 5));
                }
            }
        }
    }

    /** STATIONS: at most 10, numbered from 0. */
    private static void tenStations() {
        Twin t = new Twin(check, "ten STATIONS");
        t.is("none", 0, x -> x.many(2));
        for (int k = 0; k < 10; k++) {
            int number = k;
            t.is("number", number, x -> x.station(1, 0, 0, false));
            t.is("how many", number + 1, x -> x.many(2));
        }
        t.noTime("one more", x -> x.station(1, 0, 0, false));
        t.noTime("one more again", x -> x.station(3, 5, 9, true));
        t.is("still ten", 10, x -> x.many(2));
        t.is("the last one is there", 1, x -> x.ofStation(9, 0));
        t.liveOn();
    }

    /** BLOCKS (1 to 5), a GRADE (0 to 2), a PACE of 2 + GRADE; a LINE takes BLOCKS * PACE; open at first. */
    private static void eachValueOfALine() {
        for (int grade = 0; grade <= 2; grade++) {
            for (int blocks = 1; blocks <= 5; blocks++) {
                for (int twin = 0; twin < 2; twin++) {
                    ThirteenthDay x = new ThirteenthDay();
                    x.station(1, 0, 0, false);
                    x.station(1, 0, 0, false);
                    check.is("line: number", 0, x.line(1, 0, blocks, twin == 1, grade));
                    int[] due = {1, 0, blocks, 2 + grade, 1, 0, 0};
                    for (int what = 0; what <= 6; what++) {
                        check.is("line: " + what, due[what], x.ofLine(0, what));
                    }
                    check.is("line: TIME", blocks * (2 + grade), x.way(0, 1, 0));
                    check.is("line: TIME back", blocks * (2 + grade), x.way(1, 0, 0));
                }
            }
        }
    }

    /** LINES: at most 14, numbered from 0; more than one may be between two STATIONS. */
    private static void fourteenLines() {
        Twin t = new Twin(check, "fourteen LINES");
        t.tell(x -> x.station(1, 0, 0, false));
        t.tell(x -> x.station(1, 0, 0, false));
        for (int k = 0; k < 14; k++) {
            int number = k;
            t.is("number", number, x -> x.line(0, 1, 5, true, 2));
            t.is("how many", number + 1, x -> x.many(3));
        }
        t.noTime("one more", x -> x.line(0, 1, 5, true, 2));
        t.is("still fourteen", 14, x -> x.many(3));
        t.is("the last one is there", 5, x -> x.ofLine(13, 2));
        t.is("the way by the first one", 0, x -> x.way(0, 1, 1));
        for (int k = 0; k < 13; k++) {
            int number = k;
            t.is("one is CLOSED", false, x -> x.bridge(number));
            t.is("the way by the next one", number + 1, x -> x.way(1, 0, 1));
        }
        t.is("the last one is CLOSED", false, x -> x.bridge(13));
        t.is("no way", NONE, x -> x.way(1, 0, 1));
        t.liveOn();
    }

    /** A land has 6 STATIONS and 8 LINES; 4 and 6 more there can be. */
    private static void aWholeLandAndMore() {
        Twin t = new Twin(check, "a land and more");
        t.is("LINES", 8, x -> x.land(1, 0));
        t.is("STATIONS", 6, x -> x.many(2));
        for (int k = 6; k < 10; k++) {
            int number = k;
            t.is("one more STATION", number, x -> x.station(1, 0, 0, false));
        }
        t.noTime("an eleventh STATION", x -> x.station(1, 0, 0, false));
        for (int k = 8; k < 14; k++) {
            int number = k;
            t.is("one more LINE", number, x -> x.line(0, 9, 1, false, 0));
        }
        t.noTime("a fifteenth LINE", x -> x.line(0, 9, 1, false, 0));
        t.noTime("another land", x -> x.land(1, 0));
        t.liveOn();
    }

    /** BLOCKS and GRADE are those of LINES 5 to 7 alone; these are single, LINES 0 to 4 are double. */
    private static void everyLand() {
        for (int blocks = 1; blocks <= 5; blocks++) {
            for (int grade = 0; grade <= 2; grade++) {
                ThirteenthDay x = new ThirteenthDay();
                check.is("land: LINES", 8, x.land(blocks, grade));
                for (int line = 0; line < 8; line++) {
                    check.is("land: NEAR", line < 5 ? line : line - 5, x.ofLine(line, 0));
                    check.is("land: FAR", line < 5 ? line + 1 : line - 2, x.ofLine(line, 1));
                    check.is("land: BLOCKS", line < 5 ? 2 : blocks, x.ofLine(line, 2));
                    check.is("land: PACE", line < 5 ? 2 : 2 + grade, x.ofLine(line, 3));
                    check.is("land: open", 1, x.ofLine(line, 4));
                }
                int[] station = {2, 3, 4};
                for (int k = 0; k < 6; k++) {
                    for (int what = 0; what < 3; what++) {
                        check.is("land: ofStation " + what, station[what], x.ofStation(k, what));
                    }
                    check.is("land: water", k % 2 == 0 ? 1 : 0, x.ofStation(k, 3));
                }
            }
        }
    }

    /** TIME of a STATION is 0 for the goal; 0 and 2: 0, 1: NONE, if both are the same. */
    private static void wayToItself() {
        ThirteenthDay x = new ThirteenthDay();
        x.station(1, 0, 0, false);
        for (int k = 0; k < 2; k++) {
            check.is("to itself: TIME", 0, x.way(0, 0, 0));
            check.is("to itself: first LINE", NONE, x.way(0, 0, 1));
            check.is("to itself: LINES", 0, x.way(0, 0, 2));
            x.station(1, 0, 0, false);
            x.line(0, 1, 1, true, 0);
        }
    }

    /** Without any there is no way: NONE for all three. */
    private static void noWay() {
        Twin t = new Twin(check, "no way");
        for (int k = 0; k < 4; k++) {
            t.tell(x -> x.station(1, 0, 0, false));
        }
        isNoWay(t, "without LINES", 0, 3);
        t.tell(x -> x.line(0, 1, 1, true, 0));
        t.tell(x -> x.line(2, 3, 1, true, 0));
        isNoWay(t, "with a gap", 0, 3);
        isNoWay(t, "with a gap, back", 3, 0);
        t.tell(x -> x.line(1, 2, 1, true, 0));
        t.is("the gap is shut", 6, x -> x.way(0, 3, 0));
        t.tell(x -> x.bridge(2));
        isNoWay(t, "over a CLOSED LINE", 0, 3);
        isNoWay(t, "over a CLOSED LINE, back", 3, 0);
        t.is("up to the CLOSED LINE", 2, x -> x.way(0, 1, 0));
        t.is("a way to itself there is", 0, x -> x.way(0, 0, 0));
        t.tell(x -> x.bridge(2));
        t.is("open again", 3, x -> x.way(3, 0, 2));
        t.liveOn();
    }

    private static void isNoWay(Twin t, String what, int from, int to) {
        for (int k = 0; k <= 2; k++) {
            int asked = k;
            t.is(what + ", " + asked, NONE, x -> x.way(from, to, asked));
        }
    }

    /** Ten STATIONS in a row: 9 LINES of 20 TICKS. */
    private static void theLongestWay() {
        ThirteenthDay x = Worlds.chain(10, 1, 0, 5, false, 2);
        for (int from = 0; from < 10; from++) {
            for (int to = 0; to < 10; to++) {
                int lines = Math.abs(from - to);
                check.is("long: TIME", 20 * lines, x.way(from, to, 0));
                check.is("long: LINES", lines, x.way(from, to, 2));
                check.is("long: first", lines == 0 ? NONE : from < to ? from : from - 1, x.way(from, to, 1));
            }
        }
    }

    /** From a STATION one goes by the LINE by which that is so, of several by the one with the smallest number. */
    private static void ofSeveralTheSmallestNumber() {
        ThirteenthDay x = new ThirteenthDay();
        for (int k = 0; k < 4; k++) {
            x.station(1, 0, 0, false);
        }
        x.line(2, 3, 1, false, 0);
        x.line(0, 2, 1, false, 0);
        x.line(1, 0, 1, true, 0);
        x.line(3, 1, 1, true, 0);
        x.line(0, 3, 2, true, 0);
        check.is("several: TIME", 4, x.way(0, 3, 0));
        check.is("several: 1 of 1, 2 and 4", 1, x.way(0, 3, 1));
        check.is("several: LINES by it", 2, x.way(0, 3, 2));
        check.is("several: back 0 of 0, 3 and 4", 0, x.way(3, 0, 1));
        x.bridge(1);
        check.is("several: 2 of 2 and 4", 2, x.way(0, 3, 1));
        check.is("several: back 3 of 3 and 4", 3, x.way(3, 0, 1));
        x.bridge(3);
        check.is("several: 4 alone", 4, x.way(0, 3, 1));
        check.is("several: LINES by it alone", 1, x.way(0, 3, 2));
        x.bridge(1);
        check.is("several: again 1", 1, x.way(0, 3, 1));
    }

    /** The least TIME decides, one TICK more is too much, however many LINES there are. */
    private static void theLeastTimeIsNotTheLeastOfLines() {
        ThirteenthDay x = new ThirteenthDay();
        for (int k = 0; k < 4; k++) {
            x.station(1, 0, 0, false);
        }
        x.line(0, 3, 3, true, 1);
        x.line(0, 1, 1, true, 0);
        x.line(1, 2, 1, true, 0);
        x.line(2, 3, 2, true, 0);
        check.is("least: 8 by three, 9 by one", 8, x.way(0, 3, 0));
        check.is("least: by three", 3, x.way(0, 3, 2));
        x.line(0, 3, 4, true, 0);
        check.is("least: 8 by three and 8 by one, the smallest number", 1, x.way(0, 3, 1));
        x.line(3, 0, 2, true, 1);
        check.is("least: 6 by a new one", 5, x.way(0, 3, 1));
        check.is("least: TIME", 6, x.way(0, 3, 0));
    }

    /** Of several at a STATION the smallest number, whatever the way to it was. */
    private static void theWayThereAndTheWayBack() {
        ThirteenthDay x = Worlds.anotherWayBack();
        int[] there = {4, 1, 1};
        int[] back = {4, 0, 2};
        for (int what = 0; what <= 2; what++) {
            check.is("there: " + what, there[what], x.way(0, 3, what));
            check.is("back: " + what, back[what], x.way(3, 0, what));
        }
    }

    private static void bridges() {
        Twin t = new Twin(check, "bridge");
        t.tell(x -> x.land(1, 0));
        for (int k = 0; k < 8; k++) {
            int line = k;
            t.is("CLOSED", false, x -> x.bridge(line));
            t.is("CLOSED now", 0, x -> x.ofLine(line, 4));
        }
        isNoWay(t, "all CLOSED", 0, 5);
        for (int k = 0; k < 8; k++) {
            int line = k;
            t.is("open", true, x -> x.bridge(line));
            t.is("open now", 1, x -> x.ofLine(line, 4));
            t.is("CLOSED again", false, x -> x.bridge(line));
            t.is("open again", true, x -> x.bridge(line));
        }
        t.is("all open, 0 3 2 5", 8, x -> x.way(0, 5, 0));
        t.liveOn();
    }

    /** TRAINS that are on it go on, BLOCK by BLOCK, and come through. */
    private static void aClosedLineIsGoneOnWith() {
        ThirteenthDay x = Worlds.chain(2, 1, 0, 3, false, 0);
        x.railhead(0, 1, 6);
        Worlds.send(x, 0, 1, 0);
        x.pass(6);
        x.bridge(0);
        check.is("closed: in BLOCK 0", 0, x.ofTrain(0, 4));
        x.pass(2);
        check.is("closed: in BLOCK 1", 1, x.ofTrain(0, 4));
        x.pass(2);
        check.is("closed: in BLOCK 2", 2, x.ofTrain(0, 4));
        check.is("closed: on it", 1, x.ofLine(0, 5));
        x.pass(2);
        check.is("closed: it stands", 0, x.ofTrain(0, 2));
        check.is("closed: it came through", 1, x.ofLine(0, 6));
        check.is("closed: none on it", 0, x.ofLine(0, 5));
        x.pass(3);
        check.is("closed: DONE", 3, x.ofTrain(0, 2));
    }

    /** Two TRAINS are never in one BLOCK: one follows as the BLOCK is left, not a TICK earlier. */
    private static void oneTrainInABlock() {
        for (int twin = 0; twin < 2; twin++) {
            ThirteenthDay x = Worlds.chain(2, 3, 5, 2, twin == 1, 0);
            x.railhead(0, 1, 6);
            x.foul(0, 12);
            Worlds.send(x, 0, 2, 0);
            x.pass(12);
            check.is("block: both have gone", 2, x.many(5));
            check.is("block: one is on it", 1, x.ofLine(0, 5));
            x.pass(1);
            check.is("block: the other one waits", 2, x.waits(1));
            check.is("block: with LEFT of 1", 1, x.ofTrain(0, 5));
            x.pass(1);
            check.is("block: the next BLOCK", 1, x.ofTrain(0, 4));
            check.is("block: the other one is in the first", 0, x.ofTrain(1, 4));
            check.is("block: both are on it", 2, x.ofLine(0, 5));
            x.box(0, 3);
            x.pass(2);
            check.is("block: LEFT of 0, but the next BLOCK is taken", 0, x.ofTrain(1, 5));
            check.is("block: it waits", 2, x.waits(1));
            x.pass(3);
            check.is("block: it follows", 1, x.ofTrain(1, 4));
            check.is("block: the first one stands", 0, x.ofTrain(0, 2));
        }
    }

    /** On a double LINE that is for each direction by itself; on a single one never TRAINS in both directions. */
    private static void bothDirections() {
        for (int blocks = 1; blocks <= 5; blocks++) {
            for (int twin = 0; twin < 2; twin++) {
                ThirteenthDay x = Worlds.chain(2, 3, 5, blocks, twin == 1, 0);
                x.railhead(0, 1, 6);
                x.railhead(1, 0, 6);
                x.unit(0, 1, 0, 0);
                x.unit(0, 1, 1, 1);
                x.foul(0, 40);
                x.foul(1, 40);
                x.plan(0, 20);
                x.plan(1, 20);
                x.order(3);
                x.pass(39);
                check.is("directions: both stand", 5, x.waits(1));
                for (int tick = 40; tick < 40 + 2 * blocks; tick++) {
                    x.pass(1);
                    check.is("directions: on the LINE", 1 + twin, x.ofLine(0, 5));
                    check.is("directions: the other one waits for the LINE", twin == 1, x.waits(1) != 2);
                    check.is("directions: sound", true, x.isSound());
                }
                x.pass(1);
                check.is("directions: the first one stands", "0 staff 0/0 at 1", x.tell(0));
                String due = twin == 1 ? "1 staff 1/0 at 0" : "1 staff 1/0 on 0." + (blocks - 1);
                check.is("directions: the other one", due, x.tell(1));
            }
        }
    }

    /** LINES 0 to 4 of a land are double, LINES 5 to 7 single: there one goes behind the other direction. */
    private static void doubleAndSingleLinesOfALand() {
        for (int line = 0; line < 8; line++) {
            ThirteenthDay x = new ThirteenthDay();
            x.land(2, 0);
            x.railhead(0, x.ofLine(line, 1), 6);
            x.railhead(1, x.ofLine(line, 0), 6);
            x.unit(0, 1, x.ofLine(line, 0), 0);
            x.unit(0, 1, x.ofLine(line, 1), 1);
            check.is("land: START", 50, x.plan(0, 50));
            check.is("land: by this LINE", 1, x.planned(line, 50));
            check.is("land: START of the other direction", line < 5 ? 50 : 54, x.plan(1, 50));
            check.is("land: both in one TICK", line < 5 ? 2 : 1, x.planned(line, 53));
        }
    }
}
