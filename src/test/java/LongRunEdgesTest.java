/**
 * The edges of promise 8 in calls that run many ticks: the tick in which a tank gets empty or
 * full, a pump falls short, a leak finds too little or a level comes to a mark; and the same
 * plant run in one call and tick by tick.
 */
public final class LongRunEdgesTest {
    private static final int GREATEST = 1000000000;

    /** A level or a room, a rate, a number of ticks; then the total and the short ticks behind them. */
    private static final int[][] CASES = {
        {50, 5, 9, 45, 0}, {50, 5, 10, 50, 0}, {50, 5, 11, 50, 1}, {50, 5, 5000, 50, 4990},
        {51, 5, 10, 50, 0}, {51, 5, 11, 51, 1}, {51, 5, 12, 51, 2}, {54, 5, 11, 54, 1},
        {49, 5, 9, 45, 0}, {49, 5, 10, 49, 1}, {5000, 1, 5000, 5000, 0}, {4999, 1, 5000, 4999, 1},
        {GREATEST, 1000000, 999, 999000000, 0}, {GREATEST, 1000000, 1000, GREATEST, 0},
        {GREATEST, 1000000, 1001, GREATEST, 1},
    };

    private static final Due due = new Due();

    public static void main(String[] args) {
        drainsAndFills();
        passesOn();
        leaks();
        marksAreReached();
        shortThroughout();
        shortBetweenTwoPumps();
        shortAndMoreToMove();
        shortForRoomAndMoreToMove();
        levelsThatRiseAgain();
        greatestNumbers();
        inOneCallOrTickByTick();
        due.end();
    }

    /** What a pump drains from a level, and fills into a room, by many ticks in one call. */
    private static void drainsAndFills() {
        for (int[] c : CASES) {
            drained(c[0], c[1], c[2], c[3], c[4]);
            filled(c[0], c[1], c[2], c[3], c[4]);
        }
    }

    private static void drained(int level, int rate, int ticks, int total, int shortTicks) {
        TankPlant x = new TankPlant();
        x.addTank(GREATEST, level, 0);
        x.addPump(0, -1, rate, 7, -1, false);
        x.run(ticks);
        String what = " of " + level + " drained by " + rate + " behind " + ticks;
        ledger(x, what, total, shortTicks);
        due.is("12 left" + what, level - total, () -> x.level(0));
        due.is("13 sum" + what, sumOf(level, -rate, ticks), () -> x.levelSum(0));
    }

    private static void ledger(TankPlant x, String what, long total, long shortTicks) {
        due.is("16 total" + what, total, () -> x.total(0));
        due.is("17 energy" + what, 7 * total, () -> x.energy(0));
        due.is("18 short ticks" + what, shortTicks, () -> x.shortTicks(0));
    }

    /** The sum of a level that moves by a step in each tick, between 0 and the greatest. */
    private static long sumOf(int level, int step, int ticks) {
        long sum = 0;
        long now = level;
        for (int i = 0; i < ticks; i++) {
            now = Math.max(0, Math.min(GREATEST, now + step));
            sum += now;
        }
        return sum;
    }

    private static void filled(int room, int rate, int ticks, int total, int shortTicks) {
        TankPlant x = new TankPlant();
        x.addTank(GREATEST, GREATEST - room, 0);
        x.addPump(-1, 0, rate, 7, -1, false);
        x.run(ticks);
        String what = " of room " + room + " filled by " + rate + " behind " + ticks;
        ledger(x, what, total, shortTicks);
        due.is("12 level" + what, GREATEST - room + total, () -> x.level(0));
        due.is("13 sum" + what, sumOf(GREATEST - room, rate, ticks), () -> x.levelSum(0));
    }

    /** From tank to tank: the level is the limit, the room is, or both in the same tick. */
    private static void passesOn() {
        passedOn(30, 40, 10, 30, 0);
        passedOn(30, 40, 11, 30, 1);
        passedOn(40, 30, 10, 30, 0);
        passedOn(40, 30, 11, 30, 1);
        passedOn(30, 30, 10, 30, 0);
        passedOn(30, 30, 11, 30, 1);
        passedOn(31, 32, 11, 31, 1);
        passedOn(32, 31, 11, 31, 1);
        passedOn(32, 32, 5000, 32, 4990);
    }

    private static void passedOn(int level, int room, int ticks, int total, int shortTicks) {
        TankPlant x = new TankPlant();
        x.addTank(100, level, 0);
        x.addTank(100, 100 - room, 0);
        x.addPump(0, 1, 3, 7, -1, false);
        x.run(ticks);
        String what = " of level " + level + " and room " + room + " behind " + ticks;
        ledger(x, what, total, shortTicks);
        due.is("12 source" + what, level - total, () -> x.level(0));
        due.is("12 target" + what, 100 - room + total, () -> x.level(1));
    }

    /** "loses its leak, or its level if this is less" */
    private static void leaks() {
        leaked(50, 5, 9, 5);
        leaked(50, 5, 10, 0);
        leaked(50, 5, 11, 0);
        leaked(51, 5, 10, 1);
        leaked(51, 5, 11, 0);
        leaked(54, 5, 10, 4);
        leaked(54, 5, 12, 0);
        leaked(5000, 1, 4999, 1);
        leaked(5000, 1, 5000, 0);
        leaked(GREATEST, 1000000, 999, 1000000);
        leaked(GREATEST, 1000000, 1000, 0);
        leaked(GREATEST, 1000000, 1001, 0);
        leaked(GREATEST, 0, 5000, GREATEST);
    }

    private static void leaked(int level, int leak, int ticks, int left) {
        TankPlant x = new TankPlant();
        x.addTank(GREATEST, level, leak);
        x.run(ticks);
        String what = " of " + level + " with leak " + leak + " behind " + ticks;
        due.is("12 left" + what, left, () -> x.level(0));
        due.is("13 sum" + what, sumOf(level, -leak, ticks), () -> x.levelSum(0));
    }

    /** A switch changes in the tick that begins with the mark, not one sooner or later. */
    private static void marksAreReached() {
        int[] ticks = {29, 30, 31, 32, 5000};
        for (int n : ticks) {
            TankPlant down = new TankPlant();
            down.addTank(100, 50, 1);
            down.addSwitch(0, 20, 80);
            due.is("8 down from 50 to 20, behind " + n, n > 30 ? 1 : 0, () -> down.run(n));
            due.is("15 on behind " + n, n > 30, () -> down.isOn(0));
            if (n > 30) {
                due.is("21 the tick that begins with the mark", 30, () -> down.changeTime(0));
            }
            TankPlant up = new TankPlant();
            up.addTank(100, 20, 0);
            up.addSwitch(0, 20, 50);
            up.addPump(-1, 0, 1, 0, -1, false);
            due.is("8 up from 20 to 50, behind " + n, n > 30 ? 2 : 1, () -> up.run(n));
            due.is("15 off behind " + n, n <= 30, () -> up.isOn(0));
            if (n > 30) {
                due.is("21 the tick that begins with the mark", 30, () -> up.changeTime(1));
            }
        }
    }

    /** A pump that finds too little in each tick, but something: all that comes goes on. */
    private static void shortThroughout() {
        TankPlant x = new TankPlant();
        x.addTank(100, 0, 0);
        x.addTank(1000, 0, 0);
        x.addPump(0, 1, 10, 7, -1, false);
        x.addPump(-1, 0, 3, 0, -1, false);
        x.run(333);
        ledger(x, " of what came in the tick before", 996, 333);
        x.run(1);
        ledger(x, " once more", 999, 334);
        x.run(1);
        ledger(x, " and the last room", 1000, 335);
        due.is("12 what found no room, and what came", 5, () -> x.level(0));
        TankPlant y = new TankPlant();
        y.addTank(100, 100, 0);
        y.addPump(-1, 0, 10, 7, -1, false);
        y.addPump(0, -1, 4, 0, -1, false);
        y.run(500);
        ledger(y, " of the room that was made in the tick before", 1996, 500);
        due.is("12 one tick's room is left", 96, () -> y.level(0));
        TankPlant z = new TankPlant();
        z.addTank(10, 0, 3);
        z.addPump(-1, 0, 2, 7, -1, false);
        z.run(5000);
        ledger(z, " of what leaks at once", 10000, 0);
        due.is("13 nothing stays", 0, () -> z.levelSum(0));
    }

    /** Behind each tick there is enough, but at the moment of the pump there is not. */
    private static void shortBetweenTwoPumps() {
        int[] totals = {5, 10, 15, 19, 22, 25, 28};
        int[] shorts = {0, 0, 0, 1, 2, 3, 4};
        for (int i = 0; i < totals.length; i++) {
            TankPlant level = new TankPlant();
            level.addTank(10, 10, 0);
            level.addPump(0, -1, 5, 7, -1, false);
            level.addPump(-1, 0, 3, 0, -1, false);
            level.run(i + 1);
            ledger(level, " of a level, 5 out and then 3 in, behind " + (i + 1), totals[i], shorts[i]);
            TankPlant room = new TankPlant();
            room.addTank(10, 0, 0);
            room.addPump(-1, 0, 5, 7, -1, false);
            room.addPump(0, -1, 3, 0, -1, false);
            room.run(i + 1);
            ledger(room, " of a room, 5 in and then 3 out, behind " + (i + 1), totals[i], shorts[i]);
        }
    }

    /** A pump that is short in one tick finds more, less or as much in the next. */
    private static void shortAndMoreToMove() {
        int[][] cases = {{3, 4}, {3, 5}, {3, 9}, {3, 3}, {4, 3}, {9, 1}, {0, 1}, {1, 2}, {0, 9}};
        for (int[] c : cases) {
            for (int n = 1; n <= 9; n++) {
                String what = " of first " + c[0] + ", then " + c[1] + " each, behind " + n;
                TankPlant level = new TankPlant();
                level.addTank(100, c[0], 0);
                level.addTank(1000, 0, 0);
                level.addPump(0, 1, 10, 7, -1, false);
                level.addPump(-1, 0, c[1], 0, -1, false);
                level.run(n);
                ledger(level, what, c[0] + c[1] * (n - 1), n);
                TankPlant room = new TankPlant();
                room.addTank(100, 100 - c[0], 0);
                room.addPump(-1, 0, 10, 7, -1, false);
                room.addPump(0, -1, c[1], 0, -1, false);
                room.run(n);
                ledger(room, what + ", room", c[0] + c[1] * (n - 1), n);
            }
        }
    }

    /** One end is the limit in the first tick, and the other end stays the same all the time. */
    private static void shortForRoomAndMoreToMove() {
        int[] capacities = {2, 3, 4, 5, 100};
        for (int capacity : capacities) {
            int later = Math.min(5, capacity);
            for (int n = 1; n <= 9; n++) {
                String what = " of first 2, then " + later + " each, behind " + n;
                TankPlant source = new TankPlant();
                source.addTank(capacity, capacity, 0);
                source.addTank(10, 8, 5);
                source.addPump(0, 1, 10, 7, -1, false);
                source.addPump(-1, 0, 10, 0, -1, false);
                source.run(n);
                ledger(source, what + " from a tank that is kept full", 2 + later * (n - 1), n);
                TankPlant target = new TankPlant();
                target.addTank(100, 2, 0);
                target.addTank(capacity, 0, 0);
                target.addPump(0, 1, 10, 7, -1, false);
                target.addPump(-1, 0, 5, 0, -1, false);
                target.addPump(1, -1, 10, 0, -1, false);
                target.run(n);
                ledger(target, what + " to a tank that is kept empty", 2 + later * (n - 1), n);
            }
        }
    }

    /** Several limits, one behind the other, in one call; each number is told by hand. */
    private static void levelsThatRiseAgain() {
        TankPlant x = new TankPlant();
        x.addTank(30, 15, 1);
        x.addSwitch(0, 5, 25);
        x.addPump(-1, 0, 4, 7, 0, false);
        due.is("8 falls by 1 for 10 ticks, rises by 3 for 7, falls by 1 for 21: at 10, 17, 38, 45",
                4, () -> x.run(46));
        int[] times = {10, 17, 38, 45};
        for (int i = 0; i < 4; i++) {
            int index = i;
            due.is("21 change " + i, times[index], () -> x.changeTime(index));
        }
        ledger(x, " of 7 ticks, twice", 56, 0);
        due.is("12 5 at 10, 26 at 17, 5 at 38, 26 at 45", 25, () -> x.level(0));
    }

    private static void greatestNumbers() {
        TankPlant x = new TankPlant();
        x.addTank(GREATEST, GREATEST - 1000000, 0);
        x.addPump(-1, 0, 1000000, 100, -1, false);
        x.addPump(0, -1, 1000000, 100, -1, false);
        x.run(5000);
        due.is("16 a total beyond what an int holds", 5000000000L, () -> x.total(0));
        due.is("16 of the other", 5000000000L, () -> x.total(1));
        due.is("17 the greatest energy of a call", 500000000000L, () -> x.energy(0));
        due.is("18 the room was just enough", 0, () -> x.shortTicks(0));
        due.is("19 all that came went", 0, () -> x.balance());
        due.is("13 the sum", 5000L * (GREATEST - 1000000), () -> x.levelSum(0));
        x.setLevel(0, GREATEST);
        x.run(1);
        due.is("18 now the room is too small", 1, () -> x.shortTicks(0));
        TankPlant y = new TankPlant();
        y.addTank(GREATEST, 0, 0);
        y.addPump(-1, 0, 200000, 0, -1, false);
        y.run(5000);
        due.is("13 a sum that rises to the capacity", sumOf(0, 200000, 5000), () -> y.levelSum(0));
        due.is("12 just full", GREATEST, () -> y.level(0));
    }

    /** A plant answers the same whether its ticks are run by one call or by many. */
    private static void inOneCallOrTickByTick() {
        Due.Maker[] makers = {Plants::empty, Plants::small, Plants::wide, Plants::full, Plants::swinging};
        for (int m = 0; m < makers.length; m++) {
            for (int ticks = 0; ticks <= 120; ticks++) {
                TankPlant atOnce = makers[m].made();
                TankPlant bySteps = makers[m].made();
                int changes = atOnce.run(ticks);
                int n = ticks;
                due.is("8 changes of plant " + m + " in " + ticks, changes, () -> changesBySteps(bySteps, n));
                due.is("8 plant " + m + " behind " + ticks, Shown.by(bySteps), () -> Shown.by(atOnce));
            }
        }
    }

    private static int changesBySteps(TankPlant x, int ticks) {
        int changes = 0;
        for (int i = 0; i < ticks; i++) {
            changes += x.run(1);
        }
        return changes;
    }
}
