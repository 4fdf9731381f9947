/** Counts the calls of one test whose answer is not the one that is due, and prints them. */
final class Due {
    interface Call {
        Object answer();
    }

    private int checked = 0;
    private int wrong = 0;

    /** The call answers this; numbers are compared as numbers, whatever their type. */
    void is(String what, Object due, Call call) {
        Object got;
        try {
            got = call.answer();
        } catch (RuntimeException e) {
            got = e;
        }
        check(what, isSame(due, got), due, got);
    }

    /** The call throws just this class, and nothing that the plant shows has changed. */
    void isRefused(String what, Class<? extends RuntimeException> due, TankPlant plant, Call call) {
        String before = Shown.by(plant);
        Object got;
        try {
            got = call.answer();
        } catch (RuntimeException e) {
            got = e.getClass();
        }
        check(what, due == got, due, got);
        String after = Shown.by(plant);
        check(what + ", what is shown behind it", before.equals(after), before, after);
    }

    void holds(String what, boolean isTrue) {
        check(what, isTrue, true, isTrue);
    }

    /** Ends the test: with exit code 1 if a check went wrong, or if there was none. */
    void end() {
        System.out.println(checked + " checks, " + wrong + " wrong");
        if (wrong != 0 || checked == 0) {
            System.exit(1);
        }
    }

    private void check(String what, boolean isRight, Object due, Object got) {
        checked++;
        if (!isRight) {
            wrong++;
            System.out.println(what + " answered " + got + ", due is " + due);
        }
    }

    private static boolean isSame(Object due, Object got) {
        if (isWhole(due) && isWhole(got)) {
            return ((Number) due).longValue() == ((Number) got).longValue();
        }
        return due.equals(got);
    }

    private static boolean isWhole(Object x) {
        return x instanceof Integer || x instanceof Long;
    }
}
