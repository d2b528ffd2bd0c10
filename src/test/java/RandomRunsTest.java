import java.util.Random;
import java.util.concurrent.Callable;

/** Long runs of calls, ordinary ones and wrong ones, asked of the class and of SecondOpinion. */
public final class RandomRunsTest {
    private static final int RUNS = 1000;
    /** As many as an object is used for. */
    private static final int CALLS = 512;
    private static int wrong = 0;
    private static long calls = 0;
    private static final long[] waitsSeen = new long[7];
    private static final long[] codesSeen = new long[4];
    private static final int[] mostOf = new int[13];

    private final Random random;
    private final int run;
    private final ThirteenthDay x = new ThirteenthDay();
    private final SecondOpinion y = new SecondOpinion();
    private final StringBuilder log = new StringBuilder();
    private int told = 0;
    private final int wildness;
    private final int haste;
    /** Whether many LOADS that are long unloaded want the same RAMPS and LINES, so that PATHS are hard to find. */
    private final boolean isCrowd;

    private RandomRunsTest(int run) {
        this.run = run;
        random = new Random(run * 7919L + 13);
        wildness = random.nextInt(4) == 0 ? 15 : 2;
        haste = 1 + random.nextInt(4);
        isCrowd = random.nextInt(4) == 0;
    }

    public static void main(String[] args) {
        int runs = args.length > 0 ? Integer.parseInt(args[0]) : RUNS;
        int first = args.length > 1 ? Integer.parseInt(args[1]) : 0;
        for (int run = first; run < first + runs && wrong == 0; run++) {
            new RandomRunsTest(run).play();
        }
        System.out.println("RandomRunsTest: " + calls + " calls, " + wrong + " wrong");
        for (int code = 0; code < 7; code++) {
            seen("waits " + code, waitsSeen[code]);
        }
        seen("a plan", codesSeen[0]);
        seen("a plan without a way", codesSeen[1]);
        seen("a plan that fouls at no line", codesSeen[2]);
        seen("a plan that fouls at a line", codesSeen[3]);
        if (args.length > 0) {
            for (int what = 0; what <= 12; what++) {
                System.out.println("most of many(" + what + "): " + mostOf[what]);
            }
        }
        if (wrong > 0) {
            System.exit(1);
        }
    }

    private static void seen(String what, long times) {
        if (times == 0) {
            wrong++;
            System.out.println("RandomRunsTest: never saw " + what);
        }
    }

    private void play() {
        setUp();
        for (int k = 0; told < CALLS - 2 && wrong == 0; k++) {
            oneCall();
            if (k % 16 == 0 && told < CALLS - 2) {
                both("digest()", x::digest, y::digest);
            }
        }
        while (told < CALLS) {
            both("digest()", x::digest, y::digest);
        }
        for (int what = 0; what <= 12; what++) {
            mostOf[what] = Math.max(mostOf[what], y.many(what));
        }
    }

    /** Two STATIONS with a RAMP each, one LINE that is single and long, and LOADS for both directions. */
    private void setUpSingleLine() {
        both("station", () -> x.station(1, 3, 9, true), () -> y.station(1, 3, 9, true));
        both("station", () -> x.station(1, 3, 9, true), () -> y.station(1, 3, 9, true));
        both("line", () -> x.line(1, 0, 5, false, 2), () -> y.line(1, 0, 5, false, 2));
        both("railhead(0, 1, 6)", () -> x.railhead(0, 1, 6), () -> y.railhead(0, 1, 6));
        both("railhead(1, 0, 6)", () -> x.railhead(1, 0, 6), () -> y.railhead(1, 0, 6));
        for (int k = 0; k < 6; k++) {
            int back = k == 5 ? 1 : 0;
            both("unit", () -> x.unit(3, 8, back, back), () -> y.unit(3, 8, back, back));
        }
        for (int k = 0; k < 6; k++) {
            int unit = k;
            both("plan", () -> x.plan(unit, 0), () -> y.plan(unit, 0));
        }
    }

    private void setUp() {
        if (isCrowd && random.nextInt(3) == 0) {
            setUpSingleLine();
            return;
        }
        if (random.nextInt(3) > 0) {
            land();
        } else {
            int stations = 2 + random.nextInt(9);
            for (int k = 0; k < stations; k++) {
                station();
            }
            int lines = stations - 1 + random.nextInt(6);
            for (int k = 0; k < lines; k++) {
                line();
            }
        }
        for (int sector = 0; sector < 3; sector++) {
            if (random.nextInt(5) > 0) {
                railhead(sector);
            }
        }
        int units = isCrowd ? 6 : random.nextInt(7);
        for (int k = 0; k < units; k++) {
            unit();
        }
        int told = random.nextInt(12);
        for (int k = 0; k < told; k++) {
            foe();
        }
    }

    private int upTo(int most) {
        if (random.nextInt(100) < wildness) {
            int[] wild = {-1, most + 1, -7, Integer.MAX_VALUE, Integer.MIN_VALUE, 1 << 20};
            return wild[random.nextInt(wild.length)];
        }
        return most <= 0 ? 0 : random.nextInt(most + 1);
    }

    private int from(int least, int most) {
        if (random.nextInt(100) < wildness) {
            int[] wild = {least - 1, most + 1, -1, Integer.MAX_VALUE, Integer.MIN_VALUE, 0};
            return wild[random.nextInt(wild.length)];
        }
        return least + random.nextInt(Math.max(1, most - least + 1));
    }

    private int someStation() {
        return upTo(y.stations.size() - 1);
    }

    private int someLine() {
        return upTo(y.lines.size() - 1);
    }

    private int someUnit() {
        return upTo(y.units.size() - 1);
    }

    private int someTrain() {
        int last = y.trains.size() - 1;
        return random.nextInt(2) == 0 ? upTo(last) : Math.max(0, last - random.nextInt(4));
    }

    private int soon() {
        if (isCrowd) {
            return Math.min(2880, y.tick) + random.nextInt(3);
        }
        return random.nextInt(8) == 0 ? from(0, 2880) : Math.min(2880, y.tick) + random.nextInt(40);
    }

    private void land() {
        int b = from(1, 5), g = upTo(2);
        both("land(" + b + ", " + g + ")", () -> x.land(b, g), () -> y.land(b, g));
    }

    private void station() {
        int r = from(1, 3), s = upTo(random.nextInt(2) * 5), e = upTo(9);
        boolean w = random.nextBoolean();
        both("station(" + r + ", " + s + ", " + e + ", " + w + ")", () -> x.station(r, s, e, w),
                () -> y.station(r, s, e, w));
    }

    private void line() {
        int near = someStation(), b = from(1, 5), g = upTo(2);
        int far = random.nextInt(3) == 0 ? someStation() : Math.max(0, near + 1 - 2 * random.nextInt(2));
        boolean d = random.nextBoolean();
        both("line(" + near + ", " + far + ", " + b + ", " + d + ", " + g + ")", () -> x.line(near, far, b, d, g),
                () -> y.line(near, far, b, d, g));
    }

    private void railhead(int sector) {
        int s = isCrowd ? y.stations.size() - 1 : someStation();
        int m = random.nextInt(2) == 0 ? from(6, 40) : from(6, 144);
        both("railhead(" + sector + ", " + s + ", " + m + ")", () -> x.railhead(sector, s, m),
                () -> y.railhead(sector, s, m));
    }

    private void unit() {
        int k = isCrowd ? 3 : upTo(4), l = isCrowd ? from(7, 8) : from(1, 8), s = upTo(2);
        int h = random.nextInt(2) == 0 ? someStation() : 0;
        both("unit(" + k + ", " + l + ", " + h + ", " + s + ")", () -> x.unit(k, l, h, s), () -> y.unit(k, l, h, s));
    }

    private void foe() {
        int p = upTo(2), s = upTo(2), d = from(y.day() + 1, Math.min(20, y.day() + 6)), n = from(1, 60);
        both("foe(" + p + ", " + s + ", " + d + ", " + n + ")", () -> x.foe(p, s, d, n), () -> y.foe(p, s, d, n));
    }

    private void plan() {
        int u = someUnit(), t = soon();
        both("plan(" + u + ", " + t + ")", () -> x.plan(u, t), () -> y.plan(u, t));
    }

    private void supply() {
        int s = upTo(2), t = soon();
        both("supply(" + s + ", " + t + ")", () -> x.supply(s, t), () -> y.supply(s, t));
    }

    private void pass() {
        int t = random.nextInt(8) == 0 ? from(1, 144) : 1 + random.nextInt(6 * haste);
        both("pass(" + t + ")", () -> x.pass(t), () -> y.pass(t));
    }

    private void order() {
        int set = random.nextInt(4) == 0 ? upTo(63) : random.nextInt(1 << y.units.size());
        both("order(" + set + ")", () -> x.order(set), () -> y.order(set));
    }

    private void oneCall() {
        int kind = random.nextInt(100);
        if (kind < 30) {
            pass();
        } else if (kind < 40) {
            plan();
        } else if (kind < 45) {
            supply();
        } else if (kind < 47) {
            order();
        } else if (kind < 63) {
            rareCall();
        } else {
            question();
        }
    }

    private void rareCall() {
        int a = someUnit(), l = someLine(), s = someStation(), t = someTrain(), v = upTo(3), c = upTo(2);
        switch (random.nextInt(19)) {
            case 0: both("bridge(" + l + ")", () -> x.bridge(l), () -> y.bridge(l)); break;
            case 1: case 2: {
                int n = random.nextInt(3) == 0 ? from(1, 72) : 1 + random.nextInt(12);
                both("box(" + t + ", " + n + ")", () -> x.box(t, n), () -> y.box(t, n));
                break;
            }
            case 3: case 4: {
                int n = random.nextInt(3) == 0 ? upTo(144) : random.nextInt(15);
                both("foul(" + s + ", " + n + ")", () -> x.foul(s, n), () -> y.foul(s, n));
                break;
            }
            case 5: both("stop(" + a + ")", () -> x.stop(a), () -> y.stop(a)); break;
            case 6: both("drop(" + a + ")", () -> x.drop(a), () -> y.drop(a)); break;
            case 7: case 8: both("aim(" + v + ", " + a + ", " + c + ")", () -> x.aim(v, a, c), () -> y.aim(v, a, c));
                break;
            case 9: case 10: both("change(" + v + ")", () -> x.change(v), () -> y.change(v)); break;
            case 11: both("real(" + c + ")", () -> x.real(c), () -> y.real(c)); break;
            case 12: both("rumour(" + c + ")", () -> x.rumour(c), () -> y.rumour(c)); break;
            case 13: foe(); break;
            case 14: unit(); break;
            case 15: railhead(c); break;
            case 16: if (random.nextInt(3) == 0) { station(); } break;
            case 17: if (random.nextInt(3) == 0) { line(); } break;
            default: if (random.nextInt(3) == 0) { land(); } break;
        }
    }

    private void question() {
        int a = someUnit(), l = someLine(), s = someStation(), t = someTrain(), v = upTo(3), c = upTo(2);
        int d = upTo(21), w = upTo(12), s2 = someStation();
        switch (random.nextInt(18)) {
            case 0: { int k = upTo(2); both("way(" + s + ", " + s2 + ", " + k + ")", () -> x.way(s, s2, k),
                    () -> y.way(s, s2, k)); break; }
            case 1: { int k = upTo(5); both("ofStation(" + s + ", " + k + ")", () -> x.ofStation(s, k),
                    () -> y.ofStation(s, k)); break; }
            case 2: { int k = upTo(6); both("ofLine(" + l + ", " + k + ")", () -> x.ofLine(l, k),
                    () -> y.ofLine(l, k)); break; }
            case 3: both("ofUnit(" + a + ", " + w + ")", () -> x.ofUnit(a, w), () -> y.ofUnit(a, w)); break;
            case 4: { int n = upTo(7), k = upTo(2); both("path(" + a + ", " + n + ", " + k + ")",
                    () -> x.path(a, n, k), () -> y.path(a, n, k)); break; }
            case 5: case 6: { int n = soon(); both("could(" + a + ", " + n + ")", () -> x.could(a, n),
                    () -> y.could(a, n)); break; }
            case 7: case 8: { int n = random.nextInt(9) == 0 ? upTo(3200) : y.tick + random.nextInt(80);
                both("planned(" + l + ", " + n + ")", () -> x.planned(l, n), () -> y.planned(l, n)); break; }
            case 9: { int k = upTo(3); both("variant(" + v + ", " + k + ")", () -> x.variant(v, k),
                    () -> y.variant(v, k)); break; }
            case 10: { int k = upTo(9); both("ofTrain(" + t + ", " + k + ")", () -> x.ofTrain(t, k),
                    () -> y.ofTrain(t, k)); break; }
            case 11: both("waits(" + t + ")", () -> x.waits(t), () -> y.waits(t)); break;
            case 12: both("ofSector(" + c + ", " + w + ")", () -> x.ofSector(c, w), () -> y.ofSector(c, w)); break;
            case 13: both("forecast(" + c + ", " + d + ")", () -> x.forecast(c, d), () -> y.forecast(c, d)); break;
            case 14: both("guess()", x::guess, y::guess); break;
            case 15: both("balance(" + c + ", " + d + ")", () -> x.balance(c, d), () -> y.balance(c, d)); break;
            case 16: both("tell(" + t + ")", () -> x.tell(t), () -> y.tell(t)); break;
            default: both("many(" + w + ")", () -> x.many(w), () -> y.many(w)); both("key()", x::key, y::key); break;
        }
    }

    private void both(String call, Callable<?> ofX, Callable<?> ofY) {
        calls++;
        told++;
        String due = answer(ofY);
        String got = answer(ofX);
        log.append(call).append(" = ").append(due).append('\n');
        note(call, due);
        if (!due.equals(got)) {
            wrong++;
            System.out.println(log);
            System.out.println("run " + run + ": " + call + " answered " + got + ", due is " + due);
        }
    }

    private void note(String call, String due) {
        boolean isCode = call.startsWith("plan(") || call.startsWith("could(") || call.startsWith("supply(");
        if (isCode && !due.startsWith("throws")) {
            int code = Integer.parseInt(due);
            codesSeen[code >= 0 ? 0 : code == -2 ? 1 : code == -3 ? 2 : 3]++;
        }
        if (call.startsWith("waits(") && !due.startsWith("throws")) {
            waitsSeen[Integer.parseInt(due)]++;
        }
    }

    private static String answer(Callable<?> call) {
        try {
            return String.valueOf(call.call());
        } catch (Exception e) {
            return "throws." + e.getClass().getName();
        }
    }
}
