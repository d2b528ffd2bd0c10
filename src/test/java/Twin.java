/**
 * Two objects that are told the same. What must change nothing (a refused call, a question) is heard by the first one
 * alone; then both live on and must stay alike, so that even a change that no question tells at once would show.
 */
final class Twin {
    interface Call {
        Object of(ThirteenthDay x);
    }

    private final Check check;
    private final String name;
    private final ThirteenthDay one = new ThirteenthDay();
    private final ThirteenthDay other = new ThirteenthDay();

    Twin(Check check, String name) {
        this.check = check;
        this.name = name;
    }

    /** Tells both of them something; answers what the first one answers. */
    Object tell(Call call) {
        Object got = answer(call, one);
        check.is(name + ": told to both", String.valueOf(answer(call, other)), String.valueOf(got));
        return got;
    }

    void is(String what, Object due, Call call) {
        check.is(name + ": " + what, String.valueOf(due), String.valueOf(tell(call)));
    }

    /** A question for the first one alone. */
    void asks(String what, Call call) {
        answer(call, one);
        areAlike(what + " was asked");
    }

    void refuses(String what, Class<? extends RuntimeException> due, Call call) {
        check.is(name + ": " + what, "throws." + due.getName(), String.valueOf(answer(call, one)));
        areAlike(what + " was refused");
    }

    void noPlace(String what, Call call) {
        refuses(what, IndexOutOfBoundsException.class, call);
    }

    void noWorth(String what, Call call) {
        refuses(what, IllegalArgumentException.class, call);
    }

    void noTime(String what, Call call) {
        refuses(what, IllegalStateException.class, call);
    }

    /** Asks first for what only a telling call answers, then lets both live on for some DAYS. */
    void liveOn() {
        for (int k = 0; k < one.many(4); k++) {
            int unit = k;
            for (int v = 0; v < 4; v++) {
                int variant = v;
                tell(x -> x.aim(variant, unit, x.aim(variant, unit, 0)));
            }
        }
        for (int k = 0; k < one.many(2); k++) {
            int station = k;
            tell(x -> {
                int before = x.foul(station, 0);
                x.foul(station, before);
                return before;
            });
        }
        tell(x -> {
            int before = x.real(0);
            x.real(before);
            return before;
        });
        int[] steps = {1, 1, 2, 3, 5, 8, 13, 21, 34, 55, 89, 144, 144, 144, 144};
        for (int step : steps) {
            if (one.many(0) + step <= 2880) {
                tell(x -> x.pass(step));
                areAlike("living on for " + step);
            }
        }
        for (int k = 0; k < 3; k++) {
            int plan = k;
            tell(x -> x.rumour(plan));
        }
        tell(x -> x.key());
    }

    private void areAlike(String behind) {
        check.is(name + ": digest() behind: " + behind, other.digest(), one.digest());
    }

    private static Object answer(Call call, ThirteenthDay x) {
        try {
            return call.of(x);
        } catch (RuntimeException e) {
            return "throws." + e.getClass().getName();
        }
    }
}
