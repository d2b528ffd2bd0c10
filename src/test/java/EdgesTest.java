import java.util.ArrayList;
import java.util.List;

/**
 * Every method of the face with every mixture of the last values that are allowed and the first ones that are not (and
 * the least and the greatest int), in wars of several TICKS: the class and SecondOpinion must answer, throw and go on
 * alike.
 */
public final class EdgesTest {
    private static final int CALLS_OF_AN_OBJECT = 512;
    private static final int[] EITHER = {0, 1};

    /** What a war is made of: calls with their arguments. */
    private static final class War {
        final String name;
        final List<String> calls = new ArrayList<>();

        War(String name) {
            this.name = name;
        }

        War then(String... more) {
            calls.addAll(List.of(more));
            return this;
        }

        War thenAll(War other) {
            calls.addAll(other.calls);
            return this;
        }

        War passTo(int from, int to) {
            for (int tick = from; tick < to; tick += 144) {
                then("pass " + Math.min(144, to - tick));
            }
            return this;
        }
    }

    private static int wrong = 0;
    private static long asked = 0;
    private static long refused = 0;

    private final War war;
    private ThirteenthDay x;
    private SecondOpinion y;
    private int calls;

    private EdgesTest(War war) {
        this.war = war;
        begin();
    }

    public static void main(String[] args) {
        War busy = new War("busy").then(Worlds.BUSY);
        War full = full();
        War[] wars = {
            new War("new"),
            busy,
            full,
            new War("busy, the last TICK to change").thenAll(busy).passTo(40, 2808),
            new War("busy, behind the last TICK to change").thenAll(busy).passTo(40, 2809),
            new War("full, DAY 19").thenAll(full).passTo(30, 2879),
            new War("full, the last TICK").thenAll(full).passTo(30, 2880)};
        for (War war : wars) {
            new EdgesTest(war).askAll();
        }
        System.out.println("EdgesTest: " + asked + " calls, " + refused + " refused, " + wrong + " wrong");
        if (wrong > 0 || refused == 0) {
            System.exit(1);
        }
    }

    /** As many STATIONS, LINES, UNITS, SUPPLIES and of the foe as there can be, at TICK 30. */
    private static War full() {
        War w = new War("full");
        for (int k = 0; k < 10; k++) {
            w.then("station " + (1 + k % 3) + " " + k % 6 + " " + (9 - k % 2) + " " + k % 2);
        }
        for (int k = 0; k < 14; k++) {
            w.then("line " + k % 9 + " " + (k % 9 + 1) + " " + (1 + k % 5) + " " + k % 2 + " " + k % 3);
        }
        w.then("railhead 0 9 6", "railhead 1 1 144", "railhead 2 0 24");
        for (int k = 0; k < 6; k++) {
            w.then("unit " + k % 5 + " " + (1 + k) + " " + k % 4 + " " + k % 3);
        }
        for (int k = 0; k < 4; k++) {
            w.then("plan " + k + " " + 10 * k);
        }
        for (int k = 0; k < 6; k++) {
            w.then("supply " + k % 3 + " " + 3 * k);
            for (int plan = 0; plan < 3; plan++) {
                w.then("foe " + plan + " " + k % 3 + " " + (2 + k) + " " + (10 + k));
            }
        }
        return w.then("order 31", "aim 0 0 1", "aim 0 3 2", "pass 27", "stop 1", "stop 4", "pass 3");
    }

    private void begin() {
        x = new ThirteenthDay();
        y = new SecondOpinion();
        calls = 0;
        for (String call : war.calls) {
            both(Calls.name(call), Calls.arguments(call));
        }
    }

    private static int[] edges(int least, int most) {
        return new int[] {Integer.MIN_VALUE, least - 1, least, most, most + 1, Integer.MAX_VALUE};
    }

    private void askAll() {
        int[] stations = edges(0, y.stations.size() - 1);
        int[] lines = edges(0, y.lines.size() - 1);
        int[] units = edges(0, y.units.size() - 1);
        int[] trains = edges(0, y.trains.size() - 1);
        int[] three = edges(0, 2);
        int[] four = edges(0, 3);
        int[] thirteen = edges(0, 12);
        int[] ticks = edges(y.tick, 2880);
        int[] loads = {Integer.MIN_VALUE, -1, 0, 1, 2, 3, 4, 5, 6, 7, 8, Integer.MAX_VALUE};
        each("station", edges(1, 3), edges(0, 5), edges(0, 9), EITHER);
        each("line", stations, stations, edges(1, 5), EITHER, edges(0, 2));
        each("land", edges(1, 5), edges(0, 2));
        each("bridge", lines);
        each("way", stations, stations, edges(0, 2));
        each("ofStation", stations, edges(0, 5));
        each("ofLine", lines, edges(0, 6));
        each("unit", edges(0, 4), edges(1, 8), stations, three);
        each("railhead", three, stations, edges(6, 144));
        each("order", edges(0, (1 << y.units.size()) - 1));
        each("stop", units);
        each("ofUnit", units, thirteen);
        each("plan", units, ticks);
        each("drop", units);
        each("path", units, loads, three);
        each("could", units, ticks);
        each("planned", lines, edges(y.tick, y.tick + 10));
        each("aim", four, units, three);
        each("change", four);
        each("variant", four, four);
        each("box", trains, edges(1, 72));
        each("foul", stations, edges(0, 144));
        each("ofTrain", trains, edges(0, 9));
        each("waits", trains);
        each("tell", trains);
        each("supply", three, ticks);
        each("foe", three, three, edges(y.day() + 1, 20), edges(1, 60));
        each("ofSector", three, thirteen);
        each("forecast", three, edges(0, 21));
        each("balance", three, edges(0, 21));
        each("real", three);
        each("rumour", three);
        each("pass", edges(1, 144));
        each("many", thirteen);
        each("guess");
        each("isSound");
        each("key");
    }

    /** Every mixture of the arguments; who has heard a call that was taken lives on, and another one is begun with. */
    private void each(String call, int[]... values) {
        begin();
        int mixtures = 1;
        for (int[] of : values) {
            mixtures *= of.length;
        }
        for (int mixture = 0; mixture < mixtures; mixture++) {
            int[] arguments = new int[values.length];
            int rest = mixture;
            for (int k = 0; k < values.length; k++) {
                arguments[k] = values[k][rest % values[k].length];
                rest /= values[k].length;
            }
            boolean isTaken = both(call, arguments);
            both("digest");
            if (isTaken) {
                liveOn();
            }
            if (isTaken || calls > CALLS_OF_AN_OBJECT - 50) {
                begin();
            }
        }
        liveOn();
    }

    private void liveOn() {
        for (int step : new int[] {1, 5, 29, 109, 144}) {
            if (y.tick + step <= 2880) {
                both("pass", step);
                both("digest");
            }
        }
    }

    /** Tells both, and whether the call was taken. */
    private boolean both(String call, int... arguments) {
        String due = Calls.answer(y, call, arguments);
        String got = Calls.answer(x, call, arguments);
        asked++;
        calls++;
        if (!due.equals(got)) {
            wrong++;
            StringBuilder text = new StringBuilder(call).append('(');
            for (int k = 0; k < arguments.length; k++) {
                text.append(k == 0 ? "" : ", ").append(arguments[k]);
            }
            System.out.println("EdgesTest: " + war.name + ": " + text + ") answered " + got + ", due is " + due);
        }
        refused += due.startsWith("throws.") ? 1 : 0;
        return !due.startsWith("throws.");
    }
}
