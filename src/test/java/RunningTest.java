/** Promises 8 to 11 in ordinary use: the ticks, and what run, runUntil and nextChange tell of them. */
public final class RunningTest {
    private static final Due due = new Due();
    private static TankPlant x;

    public static void main(String[] args) {
        runCountsTicksAndChanges();
        switchesComeBeforePumps();
        pumpsMoveInTheirOrder();
        leaksComeBehindPumps();
        longRuns();
        heldBySteadyShortage();
        fullestLongRun();
        runUntil();
        nextChange();
        due.end();
    }

    private static void runCountsTicksAndChanges() {
        x = new TankPlant();
        x.addTank(20, 0, 0);
        x.addSwitch(0, 0, 20);
        x.addSwitch(0, 5, 6);
        x.addPump(-1, 0, 20, 0, 0, false);
        x.addPump(0, -1, 20, 0, 0, true);
        due.is("8 no tick", 0, () -> x.run(0));
        due.is("11 no tick", 0, () -> x.time());
        due.is("8 one tick, both change", 2, () -> x.run(1));
        due.is("11 one tick", 1, () -> x.time());
        due.is("8 back", 2, () -> x.run(1));
        due.is("8 ten ticks", 20, () -> x.run(10));
        due.is("8 the most", 10000, () -> x.run(5000));
        due.is("11 all ticks", 5012, () -> x.time());
    }

    private static void switchesComeBeforePumps() {
        x = new TankPlant();
        x.addTank(100, 10, 0);
        x.addSwitch(0, 10, 90);
        x.addPump(-1, 0, 80, 0, 0, false);
        due.is("8 on in the tick that finds it low", 1, () -> x.run(1));
        due.is("8 and the pump works in it", 90, () -> x.level(0));
        due.is("8 still on: the level is looked at when a tick begins", true, () -> x.isOn(0));
        due.is("8 off in the tick that finds it high", 1, () -> x.run(1));
        due.is("8 and the pump rests in it", 90, () -> x.level(0));
        x.setLevel(0, 11);
        due.is("8 between the marks it stays off", 0, () -> x.run(1));
        x.setLevel(0, 10);
        x.run(1);
        x.setRate(0, 1);
        x.setLevel(0, 88);
        due.is("8 between the marks it stays on", 0, () -> x.run(2));
        due.is("8 up to the high mark", 90, () -> x.level(0));
    }

    private static void pumpsMoveInTheirOrder() {
        x = new TankPlant();
        x.addTank(10, 10, 0);
        x.addTank(10, 9, 0);
        x.addPump(0, 1, 5, 0, -1, false);
        x.addPump(1, -1, 7, 0, -1, false);
        x.addPump(0, 1, 9, 0, -1, false);
        x.run(1);
        due.is("8 limited by the room at this moment", 1, () -> x.total(0));
        due.is("8 by its rate", 7, () -> x.total(1));
        due.is("8 by the room that the one before has made", 7, () -> x.total(2));
        due.is("8 what is left", 2, () -> x.level(0));
        due.is("8 what is full", 10, () -> x.level(1));
        due.is("18 short", 1, () -> x.shortTicks(0));
        due.is("18 not short", 0, () -> x.shortTicks(1));
        due.is("18 short", 1, () -> x.shortTicks(2));
        x.run(1);
        due.is("8 no room at all", 1, () -> x.total(0));
        due.is("8 limited by what is there", 9, () -> x.total(2));
        due.is("8 the source is empty", 0, () -> x.level(0));
    }

    private static void leaksComeBehindPumps() {
        x = new TankPlant();
        x.addTank(10, 3, 5);
        x.addTank(10, 0, 4);
        x.addPump(0, 1, 2, 0, -1, false);
        x.run(1);
        due.is("8 the leak takes what the pump has left", 0, () -> x.level(0));
        due.is("8 the target loses its level if that is less than its leak", 0, () -> x.level(1));
        due.is("8 the pump came first", 2, () -> x.total(0));
        due.is("13 the sum has the level behind the leak", 0, () -> x.levelSum(1));
    }

    private static void longRuns() {
        x = new TankPlant();
        x.addTank(1000, 500, 3);
        x.addPump(-1, 0, 2, 1, -1, false);
        x.run(499);
        due.is("8 one down in each tick", 1, () -> x.level(0));
        x.run(1);
        due.is("8 empty", 0, () -> x.level(0));
        due.is("13 sum of 499 to 0", 124750, () -> x.levelSum(0));
        x.run(4500);
        due.is("8 stays empty: 2 in, 2 lost", 0, () -> x.level(0));
        due.is("16 total", 10000, () -> x.total(0));
        due.is("13 sum", 124750, () -> x.levelSum(0));
        x.setLeak(0, 0);
        x.run(501);
        due.is("8 full behind 500 ticks", 1000, () -> x.level(0));
        due.is("18 then short", 1, () -> x.shortTicks(0));
        due.is("13 sum of 2 to 1000, and 1000", 124750 + 250500 + 1000, () -> x.levelSum(0));
    }

    private static void heldBySteadyShortage() {
        x = new TankPlant();
        x.addTank(100, 0, 0);
        x.addTank(1000, 0, 0);
        x.addPump(-1, 0, 3, 0, -1, false);
        x.addPump(0, 1, 10, 2, -1, false);
        x.run(333);
        due.is("8 all that comes goes on", 999, () -> x.level(1));
        due.is("18 each tick short", 333, () -> x.shortTicks(1));
        due.is("17 energy", 1998, () -> x.energy(1));
        x.run(1);
        due.is("8 the last room", 1000, () -> x.level(1));
        due.is("8 what found no room", 2, () -> x.level(0));
        x.run(32);
        due.is("8 it fills up behind", 98, () -> x.level(0));
        due.is("18 no short tick of the first", 0, () -> x.shortTicks(0));
        x.run(1);
        due.is("18 one short tick of the first", 1, () -> x.shortTicks(0));
        due.is("8 full", 100, () -> x.level(0));
    }

    private static void fullestLongRun() {
        x = new TankPlant();
        x.addTank(1000000000, 1000000000, 0);
        x.addTank(1000000000, 0, 0);
        x.addPump(0, 1, 1000000, 100, -1, false);
        x.addPump(1, 0, 1000000, 100, -1, false);
        x.run(5000);
        due.is("17 the greatest energy of a run", 500000000000L, () -> x.energy(0));
        due.is("17 and back", 500000000000L, () -> x.energy(1));
        due.is("13 the greatest sum of a run", 5000000000000L, () -> x.levelSum(0));
        due.is("13 the least", 0, () -> x.levelSum(1));
    }

    private static void runUntil() {
        x = new TankPlant();
        x.addTank(100, 50, 0);
        x.addPump(-1, 0, 3, 0, -1, false);
        due.is("9 at least, already so", 0, () -> x.runUntil(0, 50, false, 10));
        due.is("9 at most, already so", 0, () -> x.runUntil(0, 50, true, 10));
        due.is("9 already so, without ticks", 0, () -> x.runUntil(0, 50, true, 0));
        due.is("9 not so, without ticks", -1, () -> x.runUntil(0, 51, false, 0));
        due.is("11 no tick was run", 0, () -> x.time());
        due.is("9 first level at or above", 7, () -> x.runUntil(0, 70, false, 100));
        due.is("12 just there", 71, () -> x.level(0));
        due.is("11 so many ticks", 7, () -> x.time());
        due.is("9 just in the last tick", 3, () -> x.runUntil(0, 80, false, 3));
        due.is("9 a tick too few", -1, () -> x.runUntil(0, 90, false, 3));
        due.is("11 all of them were run", 13, () -> x.time());
        due.is("12 not there", 89, () -> x.level(0));
        due.is("9 to the capacity", 4, () -> x.runUntil(0, 100, false, 5000));
        x.setLeak(0, 5);
        due.is("9 down, the first below: 95, 93, 91, 89, 87", 5, () -> x.runUntil(0, 88, true, 5000));
        due.is("12 down below", 87, () -> x.level(0));
        due.is("9 down to just there", 2, () -> x.runUntil(0, 83, true, 5000));
        due.is("12 just there", 83, () -> x.level(0));
    }

    private static void nextChange() {
        x = new TankPlant();
        due.is("10 no switch", -1, () -> x.nextChange(5000));
        x.addTank(10000, 5001, 0);
        x.addSwitch(0, 2, 9000);
        x.addPump(0, -1, 1, 0, -1, false);
        due.is("10 just behind the last", -1, () -> x.nextChange(4999));
        due.is("10 just the last", 5000, () -> x.nextChange(5000));
        x.setLevel(0, 2);
        due.is("10 in the first tick", 1, () -> x.nextChange(1));
        x.setLevel(0, 3);
        due.is("10 not in the first tick", -1, () -> x.nextChange(1));
        due.is("10 in the second", 2, () -> x.nextChange(2));
        x.run(2);
        x.setLevel(0, 8999);
        x.addPump(-1, 0, 2, 0, -1, false);
        due.is("10 turned off in the second", 2, () -> x.nextChange(5000));
    }
}
