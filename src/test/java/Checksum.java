import java.math.BigInteger;

/**
 * The sum of promise 39, made from the calls that it names, without any bound: longValue() wraps it around. It takes
 * some hundreds of the 512 calls for which an object is used.
 */
final class Checksum {
    private BigInteger d = BigInteger.valueOf(58259);

    private Checksum() {
    }

    static BigInteger of(ThirteenthDay x) {
        Checksum sum = new Checksum();
        for (int k = 0; k <= 12; k++) {
            sum.then(x.many(k));
        }
        sum.land(x);
        sum.units(x);
        sum.trains(x);
        for (int sector = 0; sector < 3; sector++) {
            for (int k = 0; k <= 12; k++) {
                sum.then(x.ofSector(sector, k));
            }
            sum.then(x.forecast(sector, 13));
        }
        sum.then(x.guess());
        sum.then(x.isSound() ? 1 : 0);
        return sum.d;
    }

    private void then(int v) {
        d = d.multiply(BigInteger.valueOf(31)).add(BigInteger.valueOf(v));
    }

    private void land(ThirteenthDay x) {
        int stations = x.many(2);
        for (int station = 0; station < stations; station++) {
            for (int k = 0; k <= 5; k++) {
                then(x.ofStation(station, k));
            }
        }
        int lines = x.many(3);
        for (int line = 0; line < lines; line++) {
            for (int k = 0; k <= 6; k++) {
                then(x.ofLine(line, k));
            }
        }
    }

    private void units(ThirteenthDay x) {
        int units = x.many(4);
        for (int unit = 0; unit < units; unit++) {
            for (int k = 0; k <= 12; k++) {
                then(x.ofUnit(unit, k));
            }
            int loads = x.ofUnit(unit, 1);
            for (int load = 0; load < loads; load++) {
                for (int k = 0; k <= 2; k++) {
                    then(x.path(unit, load, k));
                }
            }
        }
    }

    private void trains(ThirteenthDay x) {
        int trains = x.many(5);
        for (int train = 0; train < trains; train++) {
            for (int k = 0; k <= 9; k++) {
                then(x.ofTrain(train, k));
            }
            then(x.waits(train));
        }
    }
}
