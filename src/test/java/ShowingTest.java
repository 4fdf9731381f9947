/** Promises 11 to 19 in ordinary use: what the plant shows of its tanks, switches and pumps. */
public final class ShowingTest {
    private static final Due due = new Due();
    private static TankPlant x;

    public static void main(String[] args) {
        levelsAndSums();
        meanIsRounded();
        switchesAreShown();
        ledgers();
        balance();
        due.end();
    }

    private static void levelsAndSums() {
        x = new TankPlant();
        x.addTank(10, 9, 2);
        x.addTank(10, 1, 0);
        due.is("12 at first", 9, () -> x.level(0));
        due.is("13 at first", 0, () -> x.levelSum(0));
        due.is("14 the level while the time is 0", 9.0, () -> x.meanLevel(0));
        due.is("14 of the second too", 1.0, () -> x.meanLevel(1));
        x.run(1);
        due.is("12 behind a tick", 7, () -> x.level(0));
        due.is("13 behind a tick", 7, () -> x.levelSum(0));
        due.is("14 behind a tick", 7.0, () -> x.meanLevel(0));
        x.run(1);
        due.is("13 behind two", 12, () -> x.levelSum(0));
        due.is("14 behind two", 6.0, () -> x.meanLevel(0));
        due.is("13 of the second", 2, () -> x.levelSum(1));
        x.run(2);
        due.is("14 no whole number", 4.25 - 0.25, () -> x.meanLevel(0));
        x.run(1);
        due.is("14 a fraction", 16 / 5.0, () -> x.meanLevel(0));
        due.is("12 empty", 0, () -> x.level(0));
    }

    private static void meanIsRounded() {
        x = new TankPlant();
        x.addTank(10, 1, 0);
        x.run(1);
        x.setLevel(0, 0);
        x.run(2);
        due.is("14 a third", 1 / 3.0, () -> x.meanLevel(0));
        x = new TankPlant();
        x.addTank(1000000000, 1000000000, 0);
        for (int i = 0; i < 100; i++) {
            x.run(5000);
        }
        x.setLevel(0, 1);
        x.run(1);
        due.is("13 a large sum", 500000000000001L, () -> x.levelSum(0));
        due.is("14 of a large sum", 500000000000001.0 / 500001.0, () -> x.meanLevel(0));
    }

    private static void switchesAreShown() {
        x = new TankPlant();
        x.addTank(10, 0, 0);
        x.addTank(10, 10, 0);
        x.addSwitch(0, 0, 10);
        x.addSwitch(1, 0, 10);
        due.is("15 off at first", false, () -> x.isOn(0));
        x.run(1);
        due.is("15 on", true, () -> x.isOn(0));
        due.is("15 the other is off", false, () -> x.isOn(1));
        x.setLevel(0, 10);
        due.is("15 on until a tick", true, () -> x.isOn(0));
        x.run(1);
        due.is("15 off", false, () -> x.isOn(0));
    }

    private static void ledgers() {
        x = new TankPlant();
        x.addTank(100, 0, 0);
        x.addTank(9, 0, 0);
        x.addPump(-1, 0, 4, 3, -1, false);
        x.addPump(0, 1, 2, 0, -1, false);
        x.addPump(0, 1, 1, 100, -1, false);
        x.run(4);
        due.is("16 by the rate", 16, () -> x.total(0));
        due.is("17 the amount times the lift", 48, () -> x.energy(0));
        due.is("18 never short", 0, () -> x.shortTicks(0));
        due.is("16 until there is no room", 6, () -> x.total(1));
        due.is("17 no lift, no energy", 0, () -> x.energy(1));
        due.is("18 short in the fourth", 1, () -> x.shortTicks(1));
        due.is("16 of the third", 3, () -> x.total(2));
        due.is("17 of the third", 300, () -> x.energy(2));
        due.is("18 short without an amount", 1, () -> x.shortTicks(2));
        x.setRate(0, 5);
        x.run(1);
        due.is("16 goes on", 21, () -> x.total(0));
        due.is("17 goes on", 63, () -> x.energy(0));
    }

    private static void balance() {
        x = new TankPlant();
        x.addTank(100, 50, 7);
        x.addTank(100, 50, 0);
        x.addPump(-1, 0, 10, 0, -1, false);
        x.addPump(0, 1, 5, 0, -1, false);
        x.addPump(1, -1, 30, 0, -1, false);
        x.addPump(-1, 1, 2, 0, -1, false);
        due.is("19 at first", 0, () -> x.balance());
        x.run(1);
        due.is("19 in less out, without leaks and between tanks", 10 - 30 + 2, () -> x.balance());
        x.setLevel(1, 0);
        due.is("19 a set level is no matter of it", -18, () -> x.balance());
        x.run(1);
        due.is("19 in total", -18 + 10 - 5 + 2, () -> x.balance());
    }
}
