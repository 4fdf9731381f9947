/** Counts the calls of one test whose answer is not the one that is due, and prints them. */
final class Due {
    static final Class<IndexOutOfBoundsException> INDEX = IndexOutOfBoundsException.class;
    static final Class<IllegalArgumentException> ARGUMENT = IllegalArgumentException.class;
    static final Class<IllegalStateException> STATE = IllegalStateException.class;
    static final int LOWEST = Integer.MIN_VALUE;
    static final int HIGHEST = Integer.MAX_VALUE;

    interface Call {
        Object answer();
    }

    /** Makes a plant, the same at each call. */
    interface Maker {
        TankPlant made();
    }

    interface CallOf {
        Object answer(TankPlant x);
    }

    interface CallAt {
        Object answer(TankPlant x, int number);
    }

    private int checked = 0;
    private int wrong = 0;

    /** The call answers this; numbers are compared as numbers, whatever their type. */
    void is(String what, Object due, Call call) {
        Object got = answerOf(call);
        check(what, isSame(due, got), due, got);
    }

    /** A plant that is made for this check alone answers this. */
    void gives(String what, Object due, Maker maker, CallOf call) {
        TankPlant x = maker.made();
        is(what, due, () -> call.answer(x));
    }

    /** The call throws just this class. */
    void isThrown(String what, Class<? extends RuntimeException> due, Call call) {
        Object got = answerOf(call);
        check(what, due == got, due, got);
    }

    /** The call throws just this class, and the plant goes on like one that was not called so. */
    void refuses(String what, Class<? extends RuntimeException> due, Maker maker, CallOf call) {
        TankPlant x = maker.made();
        isThrown(what, due, () -> call.answer(x));
        staysSame(what, maker.made(), x);
    }

    /** The calls leave the plant such that it goes on like one that was not called so. */
    void leaves(String what, Maker maker, CallOf call) {
        TankPlant x = maker.made();
        Object got = answerOf(() -> call.answer(x));
        check(what + ", no exception", !(got instanceof Class), "an answer", got);
        staysSame(what, maker.made(), x);
    }

    /** The numbers 0 to count - 1 are answered; those beside them are refused. */
    void numbers(String what, int count, Maker maker, CallAt call) {
        int[] beside = {-1, count, count + 1, 64, LOWEST, HIGHEST};
        for (int number : beside) {
            refuses(what + " " + number + " of " + count, INDEX, maker, x -> call.answer(x, number));
        }
        for (int i = 0; i < count; i++) {
            int number = i;
            Object got = answerOf(() -> call.answer(maker.made(), number));
            check(what + " " + number + " of " + count, !(got instanceof Class), "an answer", got);
        }
    }

    void holds(String what, boolean isTrue) {
        check(what, isTrue, true, isTrue);
    }

    /** Ends the test: with exit code 1 if a check went wrong, or if there was none. */
    void end() {
        System.out.println(checked + " checks, " + wrong + " wrong");
        if (wrong != 0 || checked == 0) {
            System.exit(1);
        }
    }

    private void staysSame(String what, TankPlant twin, TankPlant x) {
        String want = Shown.onwards(twin);
        String got = Shown.onwards(x);
        check(what + ", nothing has changed", want.equals(got), want, got);
    }

    private void check(String what, boolean isRight, Object due, Object got) {
        checked++;
        if (!isRight) {
            wrong++;
            System.out.println(what + " answered " + got + ", due is " + due);
        }
    }

    /** The answer, or the class of what was thrown. */
    private static Object answerOf(Call call) {
        try {
            return call.answer();
        } catch (RuntimeException e) {
            return e.getClass();
        }
    }

    private static boolean isSame(Object due, Object got) {
        if (isWhole(due) && isWhole(got)) {
            return ((Number) due).longValue() == ((Number) got).longValue();
        }
        return due.equals(got);
    }

    private static boolean isWhole(Object x) {
        return x instanceof Integer || x instanceof Long;
    }
}
