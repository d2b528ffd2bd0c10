/** Counts answers that are not due, and ends a test with exit code 1 if there was one. */
final class Check {
    interface Call {
        Object of();
    }

    private final String test;
    private int asked = 0;
    private int wrong = 0;

    Check(String test) {
        this.test = test;
    }

    void is(String what, long due, long got) {
        asked++;
        if (due != got) {
            say(what + " answered " + got + ", due is " + due);
        }
    }

    void is(String what, String due, String got) {
        asked++;
        if (!due.equals(got)) {
            say(what + " answered " + got + ", due is " + due);
        }
    }

    void is(String what, boolean due, boolean got) {
        is(what, due ? 1 : 0, got ? 1 : 0);
    }

    /** A call that must throw just this exception, and change nothing that digest() or the next calls tell. */
    void refuses(String what, ThirteenthDay x, Class<? extends RuntimeException> due, Call call) {
        asked++;
        long before = x.digest();
        String got = "nothing";
        try {
            call.of();
        } catch (RuntimeException e) {
            got = e.getClass().getName();
        }
        if (!due.getName().equals(got)) {
            say(what + " throws " + got + ", due is " + due.getName());
        }
        if (x.digest() != before) {
            say(what + " was refused, but changed something");
        }
    }

    void noPlace(String what, ThirteenthDay x, Call call) {
        refuses(what, x, IndexOutOfBoundsException.class, call);
    }

    void noWorth(String what, ThirteenthDay x, Call call) {
        refuses(what, x, IllegalArgumentException.class, call);
    }

    void noTime(String what, ThirteenthDay x, Call call) {
        refuses(what, x, IllegalStateException.class, call);
    }

    private void say(String text) {
        wrong++;
        System.out.println(test + ": " + text);
    }

    void end() {
        System.out.println(test + ": " + asked + " answers asked, " + wrong + " wrong");
        if (wrong > 0) {
            System.exit(1);
        }
    }
}
