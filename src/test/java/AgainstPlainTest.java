/**
 * Compares TankPlant with PlainPlant, call by call, over many runs of calls that a fixed
 * sequence of numbers makes: small tanks that are often full or empty, large ones, wrong
 * arguments, the limits of each count.
 */
public final class AgainstPlainTest {
    private static final int RUNS = 4500;
    /** With the parts, a digest behind each call and what is shown at the end: below 512 for an object. */
    private static final int CALLS = 130;

    private final Due due = new Due();
    private long seed;
    private TankPlant plant;
    private PlainPlant plain;
    /** The greatest capacity and rate of this run of calls, and its greatest number of ticks. */
    private int capacities;
    private int rates;
    private int ticks;

    public static void main(String[] args) {
        AgainstPlainTest test = new AgainstPlainTest();
        for (int run = 0; run < RUNS; run++) {
            test.compare(run);
        }
        test.due.end();
    }

    private void compare(int run) {
        seed = 1000003L * run + 17;
        plant = new TankPlant();
        plain = new PlainPlant();
        capacities = pick(5, 12, 60, 1000, 100000, 1000000000);
        rates = pick(3, 10, Math.max(1, Math.min(capacities / 50, 1000000)), Math.min(capacities, 1000000));
        ticks = pick(3, 30, 300, run % 20 == 0 ? 5000 : 400);
        int parts = upTo(30);
        for (int i = 0; i < parts; i++) {
            add("run " + run + " part " + i);
        }
        for (int i = 0; i < CALLS; i++) {
            call("run " + run + " call " + i);
        }
        same("run " + run + " end", Shown.by(plant), plain.digest(), plant.digest());
    }

    private void same(String what, String shown, Object fromPlain, Object fromPlant) {
        due.holds(what + ": plain " + fromPlain + ", plant " + fromPlant + " " + shown, fromPlain.equals(fromPlant));
    }

    private void both(String what, Due.Call ofPlain, Due.Call ofPlant) {
        Object fromPlain = answer(ofPlain);
        Object fromPlant = answer(ofPlant);
        same(what, "", fromPlain, fromPlant);
        same(what + ", the digest behind it", "", plain.digest(), plant.digest());
    }

    private static Object answer(Due.Call call) {
        try {
            return call.answer();
        } catch (RuntimeException e) {
            return e.getClass();
        }
    }

    private void add(String at) {
        int kind = upTo(2);
        if (kind == 0) {
            addTank(at);
        } else if (kind == 1) {
            addSwitch(at);
        } else {
            addPump(at);
        }
    }

    private void addTank(String at) {
        int capacity = odd(1 + upTo(capacities - 1), 0, 1, 1000000000, 1000000001, -1);
        int level = odd(upTo(Math.max(0, Math.min(capacity, 1000000000))), -1, capacity, capacity + 1);
        int leak = odd(upTo(2) == 0 ? upTo(rates) : 0, -1, 1000000, 1000001);
        both(at + " addTank(" + capacity + ", " + level + ", " + leak + ")",
                () -> plain.addTank(capacity, level, leak), () -> plant.addTank(capacity, level, leak));
    }

    private void addSwitch(String at) {
        int tank = index(3);
        int capacity = capacities;
        int low = odd(upTo(capacity / 2), -1, 0, capacity);
        int high = odd(low + 1 + upTo(capacity / 2), low, low - 1, capacity);
        both(at + " addSwitch(" + tank + ", " + low + ", " + high + ")",
                () -> plain.addSwitch(tank, low, high), () -> plant.addSwitch(tank, low, high));
    }

    private void addPump(String at) {
        int from = upTo(3) == 0 ? -1 : index(4);
        int to = upTo(3) == 0 ? -1 : index(4);
        int rate = odd(1 + upTo(rates - 1), 0, -1, 1000000, 1000001);
        int lift = odd(upTo(100), -1, 0, 100, 101);
        int control = upTo(1) == 0 ? -1 : index(4);
        boolean isInverted = upTo(1) == 0;
        both(at + " addPump(" + from + ", " + to + ", " + rate + ", " + lift + ", " + control + ", " + isInverted + ")",
                () -> plain.addPump(from, to, rate, lift, control, isInverted),
                () -> plant.addPump(from, to, rate, lift, control, isInverted));
    }

    private void call(String at) {
        int kind = upTo(29);
        if (kind < 3) {
            add(at);
        } else if (kind < 6) {
            set(at, kind - 3);
        } else if (kind < 16) {
            go(at, kind);
        } else if (kind < 18) {
            depot(at, kind == 16);
        } else {
            ask(at, kind);
        }
    }

    private void set(String at, int kind) {
        int number = index(6);
        if (kind == 0) {
            int level = odd(upTo(capacities), -1, 0, capacities + 1);
            both(at + " setLevel(" + number + ", " + level + ")",
                    () -> plain.setLevel(number, level), () -> plant.setLevel(number, level));
        } else if (kind == 1) {
            int leak = odd(upTo(rates), -1, 0, 1000000, 1000001);
            both(at + " setLeak(" + number + ", " + leak + ")",
                    () -> plain.setLeak(number, leak), () -> plant.setLeak(number, leak));
        } else {
            int rate = odd(1 + upTo(rates), -1, 0, 1000000, 1000001);
            both(at + " setRate(" + number + ", " + rate + ")",
                    () -> plain.setRate(number, rate), () -> plant.setRate(number, rate));
        }
    }

    private void go(String at, int kind) {
        int count = odd(upTo(ticks), -1, 0, 1, 5001);
        if (kind < 10) {
            both(at + " run(" + count + ")", () -> plain.run(count), () -> plant.run(count));
        } else if (kind < 13) {
            int tank = index(4);
            int level = odd(upTo(capacities), -1, 0, Integer.MAX_VALUE, Integer.MIN_VALUE);
            boolean isAtMost = upTo(1) == 0;
            both(at + " runUntil(" + tank + ", " + level + ", " + isAtMost + ", " + count + ")",
                    () -> plain.runUntil(tank, level, isAtMost, count),
                    () -> plant.runUntil(tank, level, isAtMost, count));
        } else {
            both(at + " nextChange(" + count + ")", () -> plain.nextChange(count), () -> plant.nextChange(count));
        }
    }

    private void depot(String at, boolean isSave) {
        if (isSave) {
            both(at + " save()", () -> plain.save(), () -> plant.save());
        } else {
            both(at + " restore()", () -> plain.restore(), () -> plant.restore());
        }
    }

    private void ask(String at, int kind) {
        int i = index(8);
        int inLog = upTo(31) - 1;
        String what = at + " question " + kind + " of " + i + ", " + inLog;
        switch (kind) {
            case 18: both(what, () -> plain.time(), () -> plant.time()); break;
            case 19: both(what, () -> plain.level(i), () -> plant.level(i)); break;
            case 20: both(what, () -> plain.levelSum(i), () -> plant.levelSum(i)); break;
            case 21: both(what, () -> plain.meanLevel(i), () -> plant.meanLevel(i)); break;
            case 22: both(what, () -> plain.isOn(i), () -> plant.isOn(i)); break;
            case 23: both(what, () -> plain.total(i), () -> plant.total(i)); break;
            case 24: both(what, () -> plain.energy(i), () -> plant.energy(i)); break;
            case 25: both(what, () -> plain.shortTicks(i), () -> plant.shortTicks(i)); break;
            case 26: both(what, () -> plain.balance(), () -> plant.balance()); break;
            case 27: both(what, () -> plain.changeCount(), () -> plant.changeCount()); break;
            case 28: both(what, () -> plain.changeTime(inLog), () -> plant.changeTime(inLog)); break;
            default: both(what, () -> plain.changeSwitch(inLog), () -> plant.changeSwitch(inLog)); break;
        }
    }

    /** Mostly a small index, at times one far off or below 0. */
    private int index(int usual) {
        return odd(upTo(usual), -1, -2, 9, 16, Integer.MAX_VALUE, Integer.MIN_VALUE);
    }

    /** Mostly the usual number, at times one of the odd ones. */
    private int odd(int usual, int... others) {
        return upTo(19) == 0 ? pick(others) : usual;
    }

    private int pick(int... choices) {
        return choices[upTo(choices.length - 1)];
    }

    /** The next number of a fixed sequence, 0 to most. */
    private int upTo(int most) {
        seed = seed * 6364136223846793005L + 1442695040888963407L;
        return (int) ((seed >>> 33) % ((long) most + 1));
    }
}
