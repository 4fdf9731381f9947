/** The four examples of the document, call by call. */
public final class ExamplesTest {
    private static final Due due = new Due();
    private static TankPlant x;

    public static void main(String[] args) {
        aSwitchThatTurnsAPump();
        aLeakAndAPumpThatFindsTooLittle();
        runningUntilALevelAndRestoring();
        whatIsRefused();
        due.end();
    }

    private static void aSwitchThatTurnsAPump() {
        x = new TankPlant();
        due.is("1 addTank", 0, () -> x.addTank(100, 50, 0));
        due.is("1 addSwitch", 0, () -> x.addSwitch(0, 20, 80));
        due.is("1 addPump", 0, () -> x.addPump(-1, 0, 10, 2, 0, false));
        due.is("1 addPump", 1, () -> x.addPump(0, -1, 3, 0, -1, false));
        due.is("1 nextChange(100)", 11, () -> x.nextChange(100));
        due.is("1 run(11)", 1, () -> x.run(11));
        due.is("1 level(0)", 27, () -> x.level(0));
        due.is("1 isOn(0)", true, () -> x.isOn(0));
        due.is("1 run(20)", 1, () -> x.run(20));
        due.is("1 level(0)", 47, () -> x.level(0));
        due.is("1 changeCount()", 2, () -> x.changeCount());
        due.is("1 changeTime(0)", 10, () -> x.changeTime(0));
        due.is("1 energy(0)", 180, () -> x.energy(0));
    }

    private static void aLeakAndAPumpThatFindsTooLittle() {
        x = new TankPlant();
        due.is("2 addTank", 0, () -> x.addTank(10, 4, 1));
        due.is("2 addTank", 1, () -> x.addTank(5, 0, 0));
        due.is("2 addPump", 0, () -> x.addPump(0, 1, 3, 1, -1, false));
        due.is("2 run(1)", 0, () -> x.run(1));
        due.is("2 level(0)", 0, () -> x.level(0));
        due.is("2 level(1)", 3, () -> x.level(1));
        due.is("2 run(1)", 0, () -> x.run(1));
        due.is("2 shortTicks(0)", 1, () -> x.shortTicks(0));
        due.is("2 levelSum(1)", 6, () -> x.levelSum(1));
        due.is("2 meanLevel(1)", 3.0, () -> x.meanLevel(1));
    }

    private static void runningUntilALevelAndRestoring() {
        x = new TankPlant();
        due.is("3 addTank", 0, () -> x.addTank(100, 0, 2));
        due.is("3 addPump", 0, () -> x.addPump(-1, 0, 5, 0, -1, false));
        due.is("3 runUntil(0, 30, false, 50)", 10, () -> x.runUntil(0, 30, false, 50));
        due.is("3 level(0)", 30, () -> x.level(0));
        due.is("3 save()", 1, () -> x.save());
        due.is("3 run(100)", 0, () -> x.run(100));
        due.is("3 level(0)", 98, () -> x.level(0));
        due.is("3 restore()", 0, () -> x.restore());
        due.is("3 level(0)", 30, () -> x.level(0));
        due.is("3 runUntil(0, 10, true, 5)", -1, () -> x.runUntil(0, 10, true, 5));
    }

    private static void whatIsRefused() {
        x = new TankPlant();
        due.isThrown("4 addTank(10, 20, 0)", IllegalArgumentException.class, () -> x.addTank(10, 20, 0));
        due.is("4 addTank(10, 2, 0)", 0, () -> x.addTank(10, 2, 0));
        due.isThrown("4 addSwitch(0, 5, 5)", IllegalArgumentException.class, () -> x.addSwitch(0, 5, 5));
        due.isThrown("4 addSwitch(3, 1, 2)", IndexOutOfBoundsException.class, () -> x.addSwitch(3, 1, 2));
        due.isThrown("4 run(6000)", IllegalArgumentException.class, () -> x.run(6000));
        due.isThrown("4 restore()", IllegalStateException.class, () -> x.restore());
        due.is("4 balance()", 0, () -> x.balance());
        due.is("4 time()", 0, () -> x.time());
    }
}
