/**
 * The edges of the steps of a tick (promise 8, and 12, 13 and 15 to 18 that show them), in single
 * ticks: levels at a mark and beside it; amounts that are just the rate, the level or the room.
 */
public final class TickEdgesTest {
    private static final int GREATEST = 1000000000;
    private static final int GREATEST_RATE = 1000000;

    /** A rate, the level or the room at the one end that is a tank, and the amount. */
    private static final int[][] OUTSIDE = {
        {5, 6, 5}, {5, 5, 5}, {5, 4, 4}, {5, 1, 1}, {5, 0, 0}, {1, 1, 1}, {1, 0, 0},
        {GREATEST_RATE, GREATEST_RATE, GREATEST_RATE}, {GREATEST_RATE, GREATEST_RATE - 1, GREATEST_RATE - 1},
    };

    private static final Due due = new Due();

    public static void main(String[] args) {
        switchesThatAreOff();
        switchesThatAreOn();
        marksAtTheEndsOfATank();
        marksSideBySide();
        switchesInAscendingOrder();
        changesHaveThePresentTime();
        pumpsFollowTheirSwitchAtOnce();
        switchesLookBeforePumps();
        amountsBetweenTanks();
        amountsFromOutside();
        amountsToOutside();
        levelAtThisMoment();
        roomAtThisMoment();
        idlePumps();
        leaks();
        leaksComeBehindPumps();
        timeAndSums();
        due.end();
    }

    /** A tank of 100 at this level, with a switch at 20 and 80 that is on or off. */
    private static TankPlant watched(int level, boolean isOn) {
        TankPlant x = new TankPlant();
        x.addTank(100, isOn ? 20 : 50, 0);
        x.addSwitch(0, 20, 80);
        x.run(1);
        x.setLevel(0, level);
        return x;
    }

    private static void follows(int level, boolean isOnBefore, boolean isOnBehind) {
        String what = " at level " + level + ", " + (isOnBefore ? "on" : "off") + " before";
        int changes = isOnBefore == isOnBehind ? 0 : 1;
        Due.Maker maker = () -> watched(level, isOnBefore);
        due.gives("15" + what, isOnBehind, maker, x -> {
            x.run(1);
            return x.isOn(0);
        });
        due.gives("8 changes" + what, changes, maker, x -> x.run(1));
        due.gives("10 next change" + what, changes == 1 ? 1 : -1, maker, x -> x.nextChange(5000));
    }

    /** "if the level of its tank is at most its low mark, it is on" ... "otherwise it stays as it was" */
    private static void switchesThatAreOff() {
        follows(0, false, true);
        follows(19, false, true);
        follows(20, false, true);
        follows(21, false, false);
        follows(79, false, false);
        follows(80, false, false);
        follows(81, false, false);
        follows(100, false, false);
    }

    /** "if the level is at least its high mark, it is off; otherwise it stays as it was" */
    private static void switchesThatAreOn() {
        follows(0, true, true);
        follows(19, true, true);
        follows(20, true, true);
        follows(21, true, true);
        follows(79, true, true);
        follows(80, true, false);
        follows(81, true, false);
        follows(100, true, false);
    }

    private static void marksAtTheEndsOfATank() {
        int[] capacities = {1, 2, 10, GREATEST};
        for (int capacity : capacities) {
            TankPlant x = new TankPlant();
            x.addTank(capacity, capacity, 0);
            x.addSwitch(0, 0, capacity);
            due.is("8 full, it stays off, of " + capacity, 0, () -> x.run(1));
            x.setLevel(0, 1);
            due.is("8 at 1 it stays off, of " + capacity, 0, () -> x.run(1));
            x.setLevel(0, 0);
            due.is("8 empty, it turns on, of " + capacity, 1, () -> x.run(1));
            x.setLevel(0, capacity - 1);
            due.is("8 one below full it stays on, of " + capacity, 0, () -> x.run(1));
            x.setLevel(0, capacity);
            due.is("8 full, it turns off, of " + capacity, 1, () -> x.run(1));
        }
    }

    private static void marksSideBySide() {
        TankPlant x = new TankPlant();
        x.addTank(10, 5, 0);
        x.addSwitch(0, 4, 5);
        due.is("8 at the high mark, off", 0, () -> x.run(1));
        x.setLevel(0, 4);
        due.is("8 one below, on", 1, () -> x.run(1));
        due.is("8 once only", 0, () -> x.run(1));
        x.setLevel(0, 5);
        due.is("8 one above, off", 1, () -> x.run(1));
        due.is("8 once only", 0, () -> x.run(1));
    }

    /** "For each switch, in ascending order" */
    private static void switchesInAscendingOrder() {
        TankPlant x = Plants.wide();
        for (int i = 0; i < 8; i++) {
            x.setLevel(i, 0);
        }
        due.is("8 all ten change in one tick", 10, () -> x.run(1));
        for (int i = 0; i < 10; i++) {
            int number = i;
            due.is("22 in ascending order " + i, number, () -> x.changeSwitch(number));
            due.is("21 at the same time " + i, 0, () -> x.changeTime(number));
        }
    }

    /** "If this changes it, that is a change, which is logged with the present time." */
    private static void changesHaveThePresentTime() {
        due.gives("21 the first tick is at time 0", 0, Plants::swinging, x -> {
            x.run(1);
            return x.changeTime(0);
        });
        TankPlant x = Plants.small();
        x.setLevel(0, 80);
        x.run(1);
        due.is("21 the time before it increases", 35, () -> x.changeTime(1));
        due.is("11 which it does", 36, () -> x.time());
    }

    /** "so that it is active while this is on, or, if it is inverted, while this is off" */
    private static void pumpsFollowTheirSwitchAtOnce() {
        boolean[] choices = {false, true};
        for (boolean isInverted : choices) {
            String what = isInverted ? ", inverted" : "";
            Due.Maker turnsOn = () -> controlled(20, false, isInverted);
            due.gives("16 in the tick that turns it on" + what, isInverted ? 0 : 3, turnsOn, TickEdgesTest::moved);
            Due.Maker staysOff = () -> controlled(21, false, isInverted);
            due.gives("16 while it is off" + what, isInverted ? 3 : 0, staysOff, TickEdgesTest::moved);
            Due.Maker turnsOff = () -> controlled(80, true, isInverted);
            due.gives("16 in the tick that turns it off" + what, isInverted ? 3 : 0, turnsOff, TickEdgesTest::moved);
            Due.Maker staysOn = () -> controlled(79, true, isInverted);
            due.gives("16 while it is on" + what, isInverted ? 0 : 3, staysOn, TickEdgesTest::moved);
        }
    }

    private static TankPlant controlled(int level, boolean isOn, boolean isInverted) {
        TankPlant x = watched(level, isOn);
        x.addPump(-1, 0, 3, 1, 0, isInverted);
        return x;
    }

    private static Object moved(TankPlant x) {
        x.run(1);
        return x.total(0);
    }

    private static void switchesLookBeforePumps() {
        TankPlant x = watched(79, true);
        x.addPump(-1, 0, 1, 0, 0, false);
        due.is("8 the level is looked at when the tick begins", 0, () -> x.run(1));
        due.is("12 though the tick brings it to the mark", 80, () -> x.level(0));
        due.is("15 it is on still", true, () -> x.isOn(0));
        due.is("8 the next tick sees it", 1, () -> x.run(1));
        due.is("12 and no more is moved", 80, () -> x.level(0));
    }

    /** "its amount is the least of its rate, the level at this moment ..., and the room at this moment" */
    private static void amountsBetweenTanks() {
        moves(5, 5, 5, 5);
        moves(5, 6, 6, 5);
        moves(5, 4, 5, 4);
        moves(5, 5, 4, 4);
        moves(5, 4, 4, 4);
        moves(5, 3, 2, 2);
        moves(5, 2, 3, 2);
        moves(5, 1, 5, 1);
        moves(5, 5, 1, 1);
        moves(5, 0, 5, 0);
        moves(5, 5, 0, 0);
        moves(5, 0, 0, 0);
        moves(1, 1, 1, 1);
        moves(1, 0, 1, 0);
        moves(1, 1, 0, 0);
        moves(GREATEST_RATE, GREATEST_RATE, GREATEST_RATE, GREATEST_RATE);
        moves(GREATEST_RATE, GREATEST_RATE - 1, GREATEST_RATE, GREATEST_RATE - 1);
        moves(GREATEST_RATE, GREATEST_RATE, GREATEST_RATE - 1, GREATEST_RATE - 1);
        moves(GREATEST_RATE, GREATEST, GREATEST, GREATEST_RATE);
    }

    private static void moves(int rate, int level, int room, int amount) {
        TankPlant x = new TankPlant();
        x.addTank(GREATEST, level, 0);
        x.addTank(GREATEST, GREATEST - room, 0);
        x.addPump(0, 1, rate, 100, -1, false);
        x.run(1);
        String what = " at rate " + rate + ", level " + level + ", room " + room;
        ledger(x, what, amount, amount < rate ? 1 : 0);
        due.is("12 the source" + what, level - amount, () -> x.level(0));
        due.is("12 the target" + what, GREATEST - room + amount, () -> x.level(1));
        due.is("19 nothing came or went" + what, 0, () -> x.balance());
    }

    /** "It is added to the total of the pump, ... and if the amount is less than the rate, its short ticks increase by 1." */
    private static void ledger(TankPlant x, String what, long amount, int shortTicks) {
        due.is("16 total" + what, amount, () -> x.total(0));
        due.is("17 energy" + what, 100 * amount, () -> x.energy(0));
        due.is("18 short ticks" + what, shortTicks, () -> x.shortTicks(0));
    }

    private static void amountsFromOutside() {
        for (int[] c : OUTSIDE) {
            TankPlant x = new TankPlant();
            x.addTank(GREATEST, GREATEST - c[1], 0);
            x.addPump(-1, 0, c[0], 100, -1, false);
            x.run(1);
            String what = " from outside at rate " + c[0] + ", room " + c[1];
            ledger(x, what, c[2], c[2] < c[0] ? 1 : 0);
            due.is("12 the level" + what, GREATEST - c[1] + c[2], () -> x.level(0));
            due.is("19 it came" + what, c[2], () -> x.balance());
        }
    }

    private static void amountsToOutside() {
        for (int[] c : OUTSIDE) {
            TankPlant x = new TankPlant();
            x.addTank(GREATEST, c[1], 0);
            x.addPump(0, -1, c[0], 100, -1, false);
            x.run(1);
            String what = " to outside at rate " + c[0] + ", level " + c[1];
            ledger(x, what, c[2], c[2] < c[0] ? 1 : 0);
            due.is("12 the level" + what, c[1] - c[2], () -> x.level(0));
            due.is("19 it went" + what, -c[2], () -> x.balance());
        }
    }

    /** "For each active pump, in ascending order": what one leaves is what the next finds. */
    private static void levelAtThisMoment() {
        totals("two drain 5, all for the first", 5, 0, new int[][] {{0, -1, 5}, {0, -1, 5}}, 5, 0);
        totals("two drain 9, the rest for the second", 9, 0, new int[][] {{0, -1, 5}, {0, -1, 5}}, 5, 4);
        totals("two drain 10, just enough", 10, 0, new int[][] {{0, -1, 5}, {0, -1, 5}}, 5, 5);
        totals("what has just come is taken on", 0, 0, new int[][] {{-1, 0, 5}, {0, 1, 5}}, 5, 5);
        totals("what comes later is not", 0, 0, new int[][] {{0, 1, 5}, {-1, 0, 5}}, 0, 5);
    }

    private static void roomAtThisMoment() {
        totals("two fill a room of 5, all for the first", 15, 0, new int[][] {{-1, 0, 5}, {-1, 0, 5}}, 5, 0);
        totals("two fill a room of 9, the rest for the second", 11, 0, new int[][] {{-1, 0, 5}, {-1, 0, 5}}, 5, 4);
        totals("two fill a room of 10, just enough", 10, 0, new int[][] {{-1, 0, 5}, {-1, 0, 5}}, 5, 5);
        totals("what has just gone leaves its room", 20, 0, new int[][] {{0, 1, 5}, {-1, 0, 5}}, 5, 5);
        totals("what goes later does not", 20, 0, new int[][] {{-1, 0, 5}, {0, 1, 5}}, 0, 5);
    }

    private static void totals(String what, int level0, int level1, int[][] pumps, int total0, int total1) {
        TankPlant x = new TankPlant();
        x.addTank(20, level0, 0);
        x.addTank(20, level1, 0);
        for (int[] p : pumps) {
            x.addPump(p[0], p[1], p[2], 0, -1, false);
        }
        x.run(1);
        due.is("16 " + what + ", the first", total0, () -> x.total(0));
        due.is("16 " + what + ", the second", total1, () -> x.total(1));
        due.is("18 " + what + ", the first", total0 < pumps[0][2] ? 1 : 0, () -> x.shortTicks(0));
        due.is("18 " + what + ", the second", total1 < pumps[1][2] ? 1 : 0, () -> x.shortTicks(1));
    }

    private static void idlePumps() {
        TankPlant x = watched(50, false);
        x.setLevel(0, 0);
        x.addTank(10, 10, 0);
        x.addPump(0, 1, 5, 1, 0, true);
        x.run(1);
        due.is("18 an idle pump has no short tick, though it would find nothing", 0, () -> x.shortTicks(0));
        due.is("16 nor a total", 0, () -> x.total(0));
        x.setLevel(0, 80);
        x.run(1);
        due.is("18 active, it has one for want of room", 1, () -> x.shortTicks(0));
    }

    /** "Each tank, in ascending order, loses its leak, or its level if this is less." */
    private static void leaks() {
        int[][] cases = {{5, 4, 1}, {5, 5, 0}, {5, 6, 0}, {5, 0, 5}, {0, 5, 0}, {0, 0, 0}, {1, 1, 0}, {1, 1000000, 0},
            {1000000, 1000000, 0}, {1000001, 1000000, 1}, {999999, 1000000, 0}, {GREATEST, 1000000, 999000000}};
        for (int[] c : cases) {
            TankPlant x = new TankPlant();
            x.addTank(GREATEST, 7, 0);
            x.addTank(GREATEST, c[0], c[1]);
            x.run(1);
            String what = "of level " + c[0] + " with leak " + c[1];
            due.is("12 what is left " + what, c[2], () -> x.level(1));
            due.is("13 the sum has it " + what, c[2], () -> x.levelSum(1));
            due.is("12 the tank beside is as it was", 7, () -> x.level(0));
            due.is("19 a leak is no pump", 0, () -> x.balance());
        }
    }

    private static void leaksComeBehindPumps() {
        TankPlant x = new TankPlant();
        x.addTank(10, 10, 3);
        x.addPump(-1, 0, 5, 0, -1, false);
        x.run(1);
        due.is("16 the room of the leak is not there yet", 0, () -> x.total(0));
        due.is("12 it leaks then", 7, () -> x.level(0));
        x.run(1);
        due.is("16 it is there in the next tick", 3, () -> x.total(0));
        due.is("18 short twice", 2, () -> x.shortTicks(0));
        TankPlant y = new TankPlant();
        y.addTank(10, 5, 5);
        y.addPump(0, -1, 5, 0, -1, false);
        y.run(1);
        due.is("16 the pump takes all before it leaks", 5, () -> y.total(0));
        due.is("12 nothing is left to leak", 0, () -> y.level(0));
        due.is("18 it was not short", 0, () -> y.shortTicks(0));
    }

    /** "The time increases by 1, and each level is added to the sum of the levels of its tank." */
    private static void timeAndSums() {
        TankPlant x = new TankPlant();
        x.addTank(10, 0, 0);
        x.addTank(GREATEST, GREATEST, 0);
        x.addTank(10, 9, 1);
        x.run(1);
        due.is("11 one tick", 1, () -> x.time());
        due.is("13 of an empty tank", 0, () -> x.levelSum(0));
        due.is("13 of the greatest level", GREATEST, () -> x.levelSum(1));
        due.is("13 the level behind the tick, not before it", 8, () -> x.levelSum(2));
        x.run(2);
        due.is("11 three ticks", 3, () -> x.time());
        due.is("13 beyond what an int holds", 3L * GREATEST, () -> x.levelSum(1));
        due.is("13 8, 7 and 6", 21, () -> x.levelSum(2));
    }
}
