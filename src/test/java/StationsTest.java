/** Promises 1 to 8: a new object, stations, lines, a whole land, bridges and ways. */
public final class StationsTest {
    private static final Check check = new Check("StationsTest");

    public static void main(String[] args) {
        aNewObject();
        stations();
        lines();
        wholeLands();
        bridges();
        ways();
        waysOfSeveral();
        factsOfStations();
        factsOfLines();
        check.end();
    }

    private static void aNewObject() {
        ThirteenthDay x = new ThirteenthDay();
        for (int what = 0; what <= 12; what++) {
            check.is("new: many(" + what + ")", 0, x.many(what));
        }
        int[] due = {-1, 24, 0, 0, 0, 0, 0, 20, 0, 0, 0, 0, 0};
        for (int sector = 0; sector < 3; sector++) {
            for (int what = 0; what <= 12; what++) {
                check.is("new: ofSector(" + sector + ", " + what + ")", due[what], x.ofSector(sector, what));
            }
        }
        check.is("new: guess()", 0, x.guess());
        check.is("new: isSound()", true, x.isSound());
        check.noPlace("new: ofStation", x, () -> x.ofStation(0, 0));
        check.noPlace("new: ofLine", x, () -> x.ofLine(0, 0));
        check.noPlace("new: ofUnit", x, () -> x.ofUnit(0, 0));
        check.noPlace("new: ofTrain", x, () -> x.ofTrain(0, 0));
        check.is("new: pass without a land", 144, x.pass(144));
    }

    private static void stations() {
        ThirteenthDay x = new ThirteenthDay();
        check.noWorth("station: ramps 0", x, () -> x.station(0, 0, 0, true));
        check.noWorth("station: ramps 4", x, () -> x.station(4, 0, 0, true));
        check.noWorth("station: sidings -1", x, () -> x.station(1, -1, 0, true));
        check.noWorth("station: sidings 6", x, () -> x.station(1, 6, 0, true));
        check.noWorth("station: engines -1", x, () -> x.station(1, 0, -1, true));
        check.noWorth("station: engines 10", x, () -> x.station(1, 0, 10, true));
        check.is("station: the first", 0, x.station(1, 0, 0, false));
        for (int k = 1; k < 10; k++) {
            check.is("station: number " + k, k, x.station(3, 5, 9, true));
        }
        check.is("station: how many", 10, x.many(2));
        check.noTime("station: the 11th", x, () -> x.station(1, 0, 0, false));
        check.noWorth("station: the 11th, wrong as well", x, () -> x.station(0, 0, 0, false));
        int[] first = {1, 0, 0, 0, 0, 0};
        int[] last = {3, 5, 9, 1, 0, 0};
        for (int what = 0; what <= 5; what++) {
            check.is("station 0: " + what, first[what], x.ofStation(0, what));
            check.is("station 9: " + what, last[what], x.ofStation(9, what));
        }
    }

    private static void lines() {
        ThirteenthDay x = new ThirteenthDay();
        x.station(1, 0, 0, false);
        x.station(1, 0, 0, false);
        check.noPlace("line: near -1", x, () -> x.line(-1, 1, 1, true, 0));
        check.noPlace("line: near 2", x, () -> x.line(2, 1, 1, true, 0));
        check.noPlace("line: far -1", x, () -> x.line(0, -1, 1, true, 0));
        check.noPlace("line: far 2", x, () -> x.line(0, 2, 1, true, 0));
        check.noPlace("line: far 2, all wrong", x, () -> x.line(2, 2, 0, true, 3));
        check.noWorth("line: the same", x, () -> x.line(1, 1, 1, true, 0));
        check.noWorth("line: blocks 0", x, () -> x.line(0, 1, 0, true, 0));
        check.noWorth("line: blocks 6", x, () -> x.line(0, 1, 6, true, 0));
        check.noWorth("line: grade -1", x, () -> x.line(0, 1, 1, true, -1));
        check.noWorth("line: grade 3", x, () -> x.line(0, 1, 1, true, 3));
        for (int k = 0; k < 14; k++) {
            check.is("line: number " + k, k, x.line(k % 2, 1 - k % 2, 1 + k % 5, k % 3 == 0, k % 3));
        }
        check.is("line: how many", 14, x.many(3));
        check.noTime("line: the 15th", x, () -> x.line(0, 1, 1, true, 0));
        check.noWorth("line: the 15th, wrong as well", x, () -> x.line(0, 0, 1, true, 0));
        check.is("line 13: NEAR", 1, x.ofLine(13, 0));
        check.is("line 13: FAR", 0, x.ofLine(13, 1));
        check.is("line 13: BLOCKS", 4, x.ofLine(13, 2));
        check.is("line 13: PACE", 3, x.ofLine(13, 3));
        check.is("line 13: open", 1, x.ofLine(13, 4));
    }

    private static void wholeLands() {
        ThirteenthDay x = new ThirteenthDay();
        check.noWorth("land: blocks 0", x, () -> x.land(0, 0));
        check.noWorth("land: blocks 6", x, () -> x.land(6, 0));
        check.noWorth("land: grade -1", x, () -> x.land(1, -1));
        check.noWorth("land: grade 3", x, () -> x.land(1, 3));
        check.is("land", 8, x.land(5, 2));
        for (int station = 0; station < 6; station++) {
            check.is("land: RAMPS", 2, x.ofStation(station, 0));
            check.is("land: SIDINGS", 3, x.ofStation(station, 1));
            check.is("land: ENGINES", 4, x.ofStation(station, 2));
            check.is("land: water", 1 - station % 2, x.ofStation(station, 3));
        }
        int[][] ends = {{0, 1}, {1, 2}, {2, 3}, {3, 4}, {4, 5}, {0, 3}, {1, 4}, {2, 5}};
        for (int line = 0; line < 8; line++) {
            check.is("land: NEAR of " + line, ends[line][0], x.ofLine(line, 0));
            check.is("land: FAR of " + line, ends[line][1], x.ofLine(line, 1));
            check.is("land: BLOCKS of " + line, line < 5 ? 2 : 5, x.ofLine(line, 2));
            check.is("land: PACE of " + line, line < 5 ? 2 : 4, x.ofLine(line, 3));
        }
        check.noTime("land: twice", x, () -> x.land(1, 0));
        check.noWorth("land: twice, and wrong", x, () -> x.land(0, 0));
        ThirteenthDay y = new ThirteenthDay();
        y.station(1, 0, 0, false);
        check.noTime("land: with a station", y, () -> y.land(1, 0));
    }

    private static void bridges() {
        ThirteenthDay x = new ThirteenthDay();
        x.land(1, 0);
        check.noPlace("bridge: -1", x, () -> x.bridge(-1));
        check.noPlace("bridge: 8", x, () -> x.bridge(8));
        check.is("bridge: before", 2, x.way(0, 3, 0));
        check.is("bridge: blown", false, x.bridge(5));
        check.is("bridge: closed", 0, x.ofLine(5, 4));
        check.is("bridge: the way round", 10, x.way(0, 3, 0));
        check.is("bridge: the first line round", 0, x.way(0, 3, 1));
        check.is("bridge: mended", true, x.bridge(5));
        check.is("bridge: open", 1, x.ofLine(5, 4));
        check.is("bridge: after", 2, x.way(0, 3, 0));
    }

    private static void ways() {
        ThirteenthDay x = new ThirteenthDay();
        x.land(2, 0);
        long before = x.digest();
        check.is("way: TIME", 12, x.way(0, 5, 0));
        check.is("way: first", 0, x.way(0, 5, 1));
        check.is("way: lines", 3, x.way(0, 5, 2));
        check.is("way: of one's own, TIME", 0, x.way(3, 3, 0));
        check.is("way: of one's own, first", -1, x.way(3, 3, 1));
        check.is("way: of one's own, lines", 0, x.way(3, 3, 2));
        check.is("way: asked, nothing changed", before, x.digest());
        check.noPlace("way: from -1", x, () -> x.way(-1, 0, 0));
        check.noPlace("way: from 6", x, () -> x.way(6, 0, 0));
        check.noPlace("way: to -1", x, () -> x.way(0, -1, 0));
        check.noPlace("way: to 6, what wrong", x, () -> x.way(0, 6, 9));
        check.noWorth("way: what -1", x, () -> x.way(0, 1, -1));
        check.noWorth("way: what 3", x, () -> x.way(0, 1, 3));
        x.station(1, 0, 0, false);
        for (int what = 0; what <= 2; what++) {
            check.is("way: none, " + what, -1, x.way(0, 6, what));
            check.is("way: none back, " + what, -1, x.way(6, 0, what));
        }
    }

    /** Of several ways of one TIME the LINE with the smallest number, at each STATION anew. */
    private static void waysOfSeveral() {
        ThirteenthDay x = new ThirteenthDay();
        for (int k = 0; k < 10; k++) {
            x.station(1, 0, 0, false);
        }
        for (int k = 0; k < 9; k++) {
            x.line(k + 1, k, 5, false, 2);
        }
        check.is("a chain: TIME", 180, x.way(0, 9, 0));
        check.is("a chain: lines", 9, x.way(0, 9, 2));
        check.is("a chain: from FAR to NEAR", 8, x.way(8, 9, 1));
        x.line(0, 2, 5, true, 2);
        x.line(0, 2, 5, true, 2);
        x.line(0, 3, 5, true, 2);
        x.line(3, 0, 4, true, 2);
        check.is("a shorter one", 9, x.way(0, 2, 1));
        check.is("the shortest to 3", 12, x.way(0, 3, 1));
        check.is("the shortest to 3, TIME", 16, x.way(0, 3, 0));
        check.is("to 4 by 3", 12, x.way(0, 4, 1));
        x.bridge(9);
        check.is("the next of the same TIME", 10, x.way(0, 2, 1));
        x.bridge(12);
        check.is("to 3 by 11", 11, x.way(0, 3, 1));
        x.bridge(0);
        check.is("0 is without its first line, to 1", 10, x.way(0, 1, 1));
        check.is("0 is without its first line, TIME", 40, x.way(0, 1, 0));
    }

    private static void factsOfStations() {
        ThirteenthDay x = new ThirteenthDay();
        x.land(1, 0);
        check.noPlace("ofStation: -1", x, () -> x.ofStation(-1, 0));
        check.noPlace("ofStation: 6, what wrong", x, () -> x.ofStation(6, 6));
        check.noWorth("ofStation: what -1", x, () -> x.ofStation(0, -1));
        check.noWorth("ofStation: what 6", x, () -> x.ofStation(0, 6));
        x.unit(1, 2, 0, 0);
        x.railhead(0, 3, 6);
        x.plan(0, 0);
        x.order(1);
        x.foul(0, 20);
        x.pass(6);
        check.is("ofStation: trains at HOME", 1, x.ofStation(0, 4));
        check.is("ofStation: one engine less", 3, x.ofStation(0, 2));
        x.foul(0, 0);
        x.pass(3);
        check.is("ofStation: HOME is left", 0, x.ofStation(0, 4));
        check.is("ofStation: there", 1, x.ofStation(3, 4));
        check.is("ofStation: not unloaded yet", 0, x.ofStation(3, 5));
        x.pass(1);
        check.is("ofStation: unloaded, there", 1, x.ofStation(3, 4));
        check.is("ofStation: unloaded now", 1, x.ofStation(3, 5));
        x.pass(3);
        check.is("ofStation: none there", 0, x.ofStation(3, 4));
        check.is("ofStation: none unloaded", 0, x.ofStation(3, 5));
    }

    private static void factsOfLines() {
        ThirteenthDay x = new ThirteenthDay();
        x.land(1, 0);
        check.noPlace("ofLine: -1", x, () -> x.ofLine(-1, 0));
        check.noPlace("ofLine: 8, what wrong", x, () -> x.ofLine(8, 7));
        check.noWorth("ofLine: what -1", x, () -> x.ofLine(0, -1));
        check.noWorth("ofLine: what 7", x, () -> x.ofLine(0, 7));
        x.unit(1, 1, 0, 0);
        x.railhead(0, 3, 6);
        x.plan(0, 0);
        x.order(1);
        x.pass(6);
        check.is("ofLine: on it", 1, x.ofLine(5, 5));
        check.is("ofLine: not through yet", 0, x.ofLine(5, 6));
        x.bridge(5);
        x.pass(1);
        check.is("ofLine: a closed one is gone on with", 1, x.ofLine(5, 5));
        x.pass(1);
        check.is("ofLine: off it", 0, x.ofLine(5, 5));
        check.is("ofLine: through", 1, x.ofLine(5, 6));
    }
}
