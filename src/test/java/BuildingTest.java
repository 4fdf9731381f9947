/** Promises 2 to 7 in ordinary use: what is added to a plant, and what is set. */
public final class BuildingTest {
    private static final Due due = new Due();
    private static TankPlant x;

    public static void main(String[] args) {
        addTank();
        addSwitch();
        addPump();
        setLevel();
        setLeak();
        setRate();
        due.end();
    }

    private static void addTank() {
        x = new TankPlant();
        due.is("2 first", 0, () -> x.addTank(10, 4, 3));
        due.is("2 its level", 4, () -> x.level(0));
        due.is("2 its sum", 0, () -> x.levelSum(0));
        due.is("2 its leak", 3, () -> x.setLeak(0, 3));
        due.is("2 second", 1, () -> x.addTank(10, 10, 0));
        due.is("2 a tick", 0, () -> x.run(1));
        due.is("2 level behind the leak", 1, () -> x.level(0));
        due.is("2 level without leak", 10, () -> x.level(1));
        due.is("2 a late tank", 2, () -> x.addTank(10, 7, 0));
        due.is("2 its sum begins at 0", 0, () -> x.levelSum(2));
        due.is("2 its mean is over the whole time", 0.0, () -> x.meanLevel(2));
    }

    private static void addSwitch() {
        x = new TankPlant();
        x.addTank(10, 5, 0);
        x.addTank(100, 5, 0);
        due.is("3 the widest", 0, () -> x.addSwitch(0, 0, 10));
        due.is("3 the narrowest at the top", 1, () -> x.addSwitch(0, 9, 10));
        due.is("3 the narrowest at the bottom", 2, () -> x.addSwitch(0, 0, 1));
        due.is("3 by the capacity of its own tank", 3, () -> x.addSwitch(1, 5, 100));
        due.is("3 is off at first, low or not", false, () -> x.isOn(3));
        due.is("3 no change yet", 0, () -> x.changeCount());
        due.is("3 the first tick turns on what is low", 2, () -> x.run(1));
        due.is("3 off between", false, () -> x.isOn(0));
        due.is("3 on below", true, () -> x.isOn(1));
        due.is("3 off above", false, () -> x.isOn(2));
        due.is("3 on at the low mark", true, () -> x.isOn(3));
    }

    private static void addPump() {
        x = new TankPlant();
        x.addTank(100, 50, 0);
        x.addTank(100, 0, 0);
        x.addSwitch(0, 10, 50);
        due.is("4 from outside", 0, () -> x.addPump(-1, 0, 5, 2, -1, false));
        due.is("4 to outside", 1, () -> x.addPump(1, -1, 1, 100, -1, true));
        due.is("4 between tanks", 2, () -> x.addPump(0, 1, 7, 1, -1, false));
        due.is("4 while on", 3, () -> x.addPump(-1, 1, 11, 3, 0, false));
        due.is("4 while off", 4, () -> x.addPump(-1, 1, 13, 3, 0, true));
        due.is("4 ledgers are 0", 0, () -> x.total(4) + x.energy(4) + x.shortTicks(4));
        due.is("4 its rate", 13, () -> x.setRate(4, 13));
        x.run(1);
        due.is("4 moved in", 5, () -> x.total(0));
        due.is("4 energy by lift", 10, () -> x.energy(0));
        due.is("4 found nothing, without a switch always active", 1, () -> x.shortTicks(1));
        due.is("4 moved between", 7, () -> x.total(2));
        due.is("4 idle while off", 0, () -> x.total(3));
        due.is("4 an idle pump has no short tick", 0, () -> x.shortTicks(3));
        due.is("4 inverted is active while off", 13, () -> x.total(4));
        due.is("4 level of the first", 48, () -> x.level(0));
        due.is("4 level of the second", 20, () -> x.level(1));
        x.setLevel(0, 10);
        x.run(1);
        due.is("4 active while on", 11, () -> x.total(3));
        due.is("4 inverted is idle while on", 13, () -> x.total(4));
    }

    private static void setLevel() {
        x = new TankPlant();
        x.addTank(10, 5, 0);
        due.is("5 to the capacity", 5, () -> x.setLevel(0, 10));
        due.is("5 to 0", 10, () -> x.setLevel(0, 0));
        due.is("5 to the same", 0, () -> x.setLevel(0, 0));
        due.is("5 the level is set", 0, () -> x.level(0));
        due.is("5 the sum is not touched", 0, () -> x.levelSum(0));
        due.is("5 up again", 0, () -> x.setLevel(0, 7));
        due.is("5 it is seen", 7, () -> x.level(0));
    }

    private static void setLeak() {
        x = new TankPlant();
        x.addTank(1000000000, 1000000000, 5);
        due.is("6 to the greatest", 5, () -> x.setLeak(0, 1000000));
        x.run(2);
        due.is("6 it leaks so", 998000000, () -> x.level(0));
        due.is("6 to 0", 1000000, () -> x.setLeak(0, 0));
        x.run(2);
        due.is("6 it leaks no more", 998000000, () -> x.level(0));
    }

    private static void setRate() {
        x = new TankPlant();
        x.addTank(1000000000, 0, 0);
        x.addPump(-1, 0, 5, 0, -1, false);
        due.is("7 to the greatest", 5, () -> x.setRate(0, 1000000));
        x.run(3);
        due.is("7 it moves so", 3000000, () -> x.level(0));
        due.is("7 to the least", 1000000, () -> x.setRate(0, 1));
        x.run(1);
        due.is("7 it moves so", 3000001, () -> x.level(0));
        due.is("7 no tick was short", 0, () -> x.shortTicks(0));
    }
}
