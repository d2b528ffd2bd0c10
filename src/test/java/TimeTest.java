/** Promises 34 to 39, and section 7: time, sums, soundness, the key, texts, and the checksum. */
public final class TimeTest {
    private static final Check check = new Check("TimeTest");

    public static void main(String[] args) {
        time();
        whatComesInWhichOrder();
        sums();
        soundness();
        theKey();
        texts();
        checksums();
        questionsChangeNothing();
        check.end();
    }

    private static ThirteenthDay camp() {
        ThirteenthDay x = new ThirteenthDay();
        x.station(3, 5, 9, false);
        x.railhead(0, 0, 6);
        return x;
    }

    private static void time() {
        ThirteenthDay x = new ThirteenthDay();
        check.noWorth("pass: 0", x, () -> x.pass(0));
        check.noWorth("pass: -1", x, () -> x.pass(-1));
        check.noWorth("pass: 145", x, () -> x.pass(145));
        check.noWorth("pass: the greatest", x, () -> x.pass(Integer.MAX_VALUE));
        check.is("pass: 1", 1, x.pass(1));
        check.is("pass: to 143", 143, x.pass(142));
        check.is("many: DAY 0", 0, x.many(1));
        check.is("pass: to 144", 144, x.pass(1));
        check.is("many: DAY 1", 1, x.many(1));
        for (int k = 2; k < 20; k++) {
            check.is("pass: a DAY", 144 * k, x.pass(144));
        }
        check.is("pass: to 2879", 2879, x.pass(143));
        check.noTime("pass: above 2880", x, () -> x.pass(2));
        check.noWorth("pass: above 2880, and wrong", x, () -> x.pass(145));
        check.is("pass: to 2880", 2880, x.pass(1));
        check.is("many: DAY 20", 20, x.many(1));
        check.noTime("pass: at the end", x, () -> x.pass(1));
    }

    /** LOADS come ahead of the DAY, which begins ahead of what is unloaded in this TICK. */
    private static void whatComesInWhichOrder() {
        ThirteenthDay x = camp();
        x.unit(1, 1, 0, 0);
        x.plan(0, 134);
        x.order(1);
        x.pass(144);
        check.is("order: it comes as the DAY begins", 1, x.ofSector(0, 2));
        check.is("order: and eats", 19, x.ofSector(0, 7));
        check.is("order: and fights", 1, x.ofSector(0, 6));
        ThirteenthDay y = camp();
        y.foe(0, 0, 1, 60);
        y.unit(3, 8, 0, 0);
        y.plan(0, 0);
        y.supply(0, 141);
        y.order(1);
        y.pass(143);
        check.is("order: WOUNDED ahead of the DAY", 0, y.ofSector(0, 9));
        check.is("order: the SUPPLY is not DONE", 1, y.many(8));
        y.pass(1);
        check.is("order: WOUNDED of the DAY go with the TRAIN that is DONE behind it", 6, y.ofSector(0, 10));
        check.is("order: the STORE ahead of it was eaten of", 20 - 8 + 24, y.ofSector(0, 7));
    }

    private static void sums() {
        ThirteenthDay x = new ThirteenthDay();
        check.noWorth("many: -1", x, () -> x.many(-1));
        check.noWorth("many: 13", x, () -> x.many(13));
        x.land(1, 0);
        x.railhead(0, 3, 6);
        x.unit(1, 2, 0, 0);
        x.unit(1, 1, 3, 0);
        x.plan(0, 0);
        x.supply(0, 50);
        x.foe(0, 0, 1, 1);
        x.foe(1, 1, 2, 2);
        x.order(3);
        x.stop(1);
        isAll("many: told", x, 0, 0, 6, 8, 2, 0, 0, 3, 1, 0, 0, 3, 2);
        x.pass(8);
        isAll("many: gone", x, 8, 0, 6, 8, 2, 1, 0, 3, 1, 0, 6, 0, 2);
        x.pass(4);
        isAll("many: DONE", x, 12, 0, 6, 8, 2, 2, 1, 2, 1, 1, 8, 0, 2);
        x.pass(144);
        isAll("many: all DONE", x, 156, 1, 6, 8, 2, 3, 3, 0, 0, 2, 0, 0, 2);
    }

    private static void isAll(String what, ThirteenthDay x, int... due) {
        for (int k = 0; k < due.length; k++) {
            check.is(what + ": many(" + k + ")", due[k], x.many(k));
        }
    }

    private static void soundness() {
        ThirteenthDay x = new ThirteenthDay();
        x.station(1, 0, 9, false);
        x.station(1, 0, 9, false);
        x.line(0, 1, 3, false, 0);
        x.railhead(0, 1, 6);
        x.railhead(1, 0, 6);
        x.unit(3, 4, 0, 0);
        x.unit(3, 4, 1, 1);
        x.plan(0, 0);
        x.plan(1, 0);
        x.order(3);
        for (int tick = 0; tick < 140; tick++) {
            x.pass(1);
            check.is("isSound: at " + tick, true, x.isSound());
        }
        check.is("isSound: more stand at HOME than there is room", true, x.ofStation(1, 4) > 1);
    }

    private static void theKey() {
        ThirteenthDay x = new ThirteenthDay();
        long before = x.digest();
        for (int k = 1; k <= 5; k++) {
            check.is("key: REFUSED", k, x.key());
        }
        check.is("key: holds nothing", before, x.digest());
        check.is("key: of a new object", 1, new ThirteenthDay().key());
    }

    private static void texts() {
        ThirteenthDay x = new ThirteenthDay();
        x.station(3, 5, 9, false);
        x.station(3, 5, 9, false);
        x.line(1, 0, 2, true, 0);
        x.railhead(0, 1, 6);
        x.railhead(2, 1, 6);
        String[] words = {"staff", "foot", "horse", "guns", "bakery"};
        check.noPlace("tell: none", x, () -> x.tell(0));
        for (int kind = 0; kind < 5; kind++) {
            x.unit(kind, 2, 0, 0);
            x.plan(kind, 100 * kind);
        }
        x.order(31);
        int train = 0;
        for (int kind = 0; kind < 5; kind++) {
            x.pass(100 * kind + 99 - x.many(0));
            check.is("tell: " + words[kind], train + " " + words[kind] + " " + kind + "/0 done", x.tell(train));
            check.is("tell: " + words[kind], (train + 1) + " " + words[kind] + " " + kind + "/1 done",
                    x.tell(train + 1));
            train += 2;
        }
        x.foul(0, 2);
        x.supply(2, x.many(0));
        x.pass(1);
        check.is("tell: stands", "10 supply 2 at 0", x.tell(10));
        x.pass(1);
        check.is("tell: on a LINE from FAR on", "10 supply 2 on 0.1", x.tell(10));
        x.pass(2);
        check.is("tell: on its next BLOCK", "10 supply 2 on 0.0", x.tell(10));
        x.pass(2);
        check.is("tell: stands at its GOAL", "10 supply 2 at 1", x.tell(10));
        x.pass(1);
        check.is("tell: unloads", "10 supply 2 unloads at 1", x.tell(10));
        x.pass(3);
        check.is("tell: DONE", "10 supply 2 done", x.tell(10));
        check.noPlace("tell: -1", x, () -> x.tell(-1));
        check.noPlace("tell: 11", x, () -> x.tell(11));
    }

    private static void checksums() {
        ThirteenthDay none = new ThirteenthDay();
        check.is("digest: of a new object", Checksum.of(none).longValue(), none.digest());
        none.land(2, 1);
        check.is("digest: of a land", Checksum.of(none).longValue(), none.digest());
        int done = 0;
        for (int k = 0; k <= 12; k++) {
            ThirteenthDay x = smallWar();
            if (k > 0) {
                Worlds.passTo(x, 17 * k);
            }
            check.is("digest: at TICK " + 17 * k, Checksum.of(x).longValue(), x.digest());
            done = x.many(6);
        }
        check.is("digest: something happened", 5, done);
    }

    private static ThirteenthDay smallWar() {
        ThirteenthDay x = new ThirteenthDay();
        x.land(2, 1);
        x.railhead(0, 5, 30);
        x.railhead(1, 3, 12);
        x.unit(1, 3, 0, 0);
        x.unit(4, 1, 1, 1);
        x.plan(0, 0);
        x.plan(1, 0);
        x.supply(1, 9);
        x.foe(0, 0, 1, 9);
        x.order(3);
        return x;
    }

    private static void questionsChangeNothing() {
        ThirteenthDay x = new ThirteenthDay();
        x.land(1, 0);
        x.railhead(0, 3, 6);
        x.unit(1, 2, 0, 0);
        x.plan(0, 0);
        x.order(1);
        x.aim(0, 0, 1);
        x.pass(7);
        long before = x.digest();
        for (int k = 0; k <= 2; k++) {
            x.way(0, 5, k);
            x.path(0, 0, k);
            x.forecast(k, 3);
            x.balance(k, 3);
        }
        x.could(0, 20);
        x.planned(5, 3);
        for (int k = 0; k <= 3; k++) {
            x.variant(0, k);
        }
        x.waits(0);
        x.guess();
        x.isSound();
        x.tell(0);
        check.is("questions: nothing is changed", before, x.digest());
    }
}
