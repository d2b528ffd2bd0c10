/** "What is asked changes nothing": every question of the face, each kind of it, heard by one of two alike wars. */
public final class QuestionsTest {
    private static final Check check = new Check("QuestionsTest");

    public static void main(String[] args) {
        ofTheLand();
        ofUnitsAndPaths();
        ofWhatCouldBe();
        ofTrains();
        ofSectors();
        ofDaysToCome();
        ofTheWhole();
        check.end();
    }

    private static Twin war(String name) {
        Twin t = new Twin(check, name);
        t.is("TICK", 40, Worlds::busy);
        return t;
    }

    private static void ofTheLand() {
        Twin t = war("land");
        for (int k = 0; k < 8; k++) {
            int station = k;
            for (int w = 0; w <= 5; w++) {
                int what = w;
                t.asks("ofStation", x -> x.ofStation(station, what));
            }
            t.asks("way", x -> x.way(0, station, station % 3));
        }
        for (int k = 0; k < 10; k++) {
            int line = k;
            for (int w = 0; w <= 6; w++) {
                int what = w;
                t.asks("ofLine", x -> x.ofLine(line, what));
            }
            t.asks("planned", x -> x.planned(line, 41));
        }
        t.liveOn();
    }

    private static void ofUnitsAndPaths() {
        Twin t = war("units");
        for (int k = 0; k < 5; k++) {
            int unit = k;
            for (int w = 0; w <= 12; w++) {
                int what = w;
                t.asks("ofUnit", x -> x.ofUnit(unit, what));
            }
            for (int w = 0; w <= 2; w++) {
                int what = w;
                t.asks("path", x -> x.path(unit, 0, what));
            }
        }
        t.liveOn();
    }

    /** What is found, and what is not: by a RAILHEAD that there is not, by RAMPS, and by a LINE. */
    private static void ofWhatCouldBe() {
        Twin t = war("what could be");
        for (int k = 40; k < 60; k++) {
            int tick = k;
            t.asks("could", x -> x.could(2, tick));
            t.asks("could", x -> x.could(3, tick));
        }
        for (int k = 0; k < 4; k++) {
            int variant = k;
            for (int w = 0; w <= 3; w++) {
                int what = w;
                t.asks("variant", x -> x.variant(variant, what));
            }
        }
        t.tell(x -> x.aim(3, 2, 2));
        t.asks("variant: no RAILHEAD", x -> x.variant(3, 0));
        t.tell(x -> x.aim(3, 2, 0));
        t.asks("variant: another way", x -> x.variant(3, 0));
        t.liveOn();
    }

    private static void ofTrains() {
        Twin t = war("trains");
        for (int k = 0; k < 7; k++) {
            int train = k;
            for (int w = 0; w <= 9; w++) {
                int what = w;
                t.asks("ofTrain", x -> x.ofTrain(train, what));
            }
            t.asks("waits", x -> x.waits(train));
            t.asks("tell", x -> x.tell(train));
        }
        t.liveOn();
    }

    private static void ofSectors() {
        Twin t = war("sectors");
        for (int k = 0; k < 3; k++) {
            int sector = k;
            for (int w = 0; w <= 12; w++) {
                int what = w;
                t.asks("ofSector", x -> x.ofSector(sector, what));
            }
        }
        t.liveOn();
    }

    private static void ofDaysToCome() {
        Twin t = war("days to come");
        for (int k = 0; k < 3; k++) {
            int sector = k;
            for (int d = 0; d <= 21; d++) {
                int day = d;
                t.asks("forecast", x -> x.forecast(sector, day));
                t.asks("balance", x -> x.balance(sector, day));
            }
        }
        t.liveOn();
    }

    private static void ofTheWhole() {
        Twin t = war("the whole");
        for (int w = 0; w <= 12; w++) {
            int what = w;
            t.asks("many", x -> x.many(what));
        }
        t.asks("guess", x -> x.guess());
        t.asks("isSound", x -> x.isSound());
        t.asks("digest", x -> x.digest());
        t.liveOn();
    }
}
