/** Promises 1 to 7: a new object, what is added to it, and what is set. */
public final class BuildingTest {
    private static final Class<IndexOutOfBoundsException> INDEX = IndexOutOfBoundsException.class;
    private static final Class<IllegalArgumentException> ARGUMENT = IllegalArgumentException.class;
    private static final Class<IllegalStateException> STATE = IllegalStateException.class;
    private static final int LOWEST = Integer.MIN_VALUE;
    private static final int HIGHEST = Integer.MAX_VALUE;

    private static final Due due = new Due();
    private static TankPlant x;

    public static void main(String[] args) {
        aNewObject();
        addTank();
        addTankAtItsLimits();
        addSwitch();
        addSwitchAtItsLimit();
        addPump();
        addPumpRefusals();
        addPumpAtItsLimit();
        setLevel();
        setLeak();
        setRate();
        due.end();
    }

    private static void aNewObject() {
        x = new TankPlant();
        due.is("1 time", 0, () -> x.time());
        due.is("1 balance", 0, () -> x.balance());
        due.is("1 changeCount", 0, () -> x.changeCount());
        due.isRefused("1 no tank", INDEX, x, () -> x.level(0));
        due.isRefused("1 no switch", INDEX, x, () -> x.isOn(0));
        due.isRefused("1 no pump", INDEX, x, () -> x.total(0));
        due.isRefused("1 no change", INDEX, x, () -> x.changeTime(0));
        due.isRefused("1 no depot", STATE, x, () -> x.restore());
        due.is("1 digest", digestOf(0, 0, 0, 0, 0, 0), () -> x.digest());
        due.is("1 run of an empty plant", 0, () -> x.run(5000));
        due.is("1 nextChange of an empty plant", -1, () -> x.nextChange(5000));
        due.is("1 time behind it", 5000, () -> x.time());
        TankPlant other = new TankPlant();
        due.is("1 another object has its own state", 0, () -> other.time());
    }

    private static long digestOf(long... numbers) {
        long d = 67;
        for (long number : numbers) {
            d = d * 31 + number;
        }
        return d;
    }

    private static void addTank() {
        x = new TankPlant();
        due.isRefused("2 capacity 0", ARGUMENT, x, () -> x.addTank(0, 0, 0));
        due.isRefused("2 capacity -1", ARGUMENT, x, () -> x.addTank(-1, 0, 0));
        due.isRefused("2 capacity lowest", ARGUMENT, x, () -> x.addTank(LOWEST, 0, 0));
        due.isRefused("2 capacity 1000000001", ARGUMENT, x, () -> x.addTank(1000000001, 0, 0));
        due.isRefused("2 capacity highest", ARGUMENT, x, () -> x.addTank(HIGHEST, 0, 0));
        due.isRefused("2 level -1", ARGUMENT, x, () -> x.addTank(10, -1, 0));
        due.isRefused("2 level above capacity", ARGUMENT, x, () -> x.addTank(10, 11, 0));
        due.isRefused("2 level highest", ARGUMENT, x, () -> x.addTank(10, HIGHEST, 0));
        due.isRefused("2 leak -1", ARGUMENT, x, () -> x.addTank(10, 5, -1));
        due.isRefused("2 leak 1000001", ARGUMENT, x, () -> x.addTank(10, 5, 1000001));
        due.isRefused("2 leak lowest", ARGUMENT, x, () -> x.addTank(10, 5, LOWEST));
        due.is("2 first", 0, () -> x.addTank(10, 4, 3));
        due.is("2 its level", 4, () -> x.level(0));
        due.is("2 its sum", 0, () -> x.levelSum(0));
        due.is("2 its leak", 3, () -> x.setLeak(0, 3));
        due.is("2 second", 1, () -> x.addTank(10, 10, 0));
        due.is("2 a tick", 0, () -> x.run(1));
        due.is("2 level behind the leak", 1, () -> x.level(0));
        due.is("2 level without leak", 10, () -> x.level(1));
        due.is("2 a late tank", 2, () -> x.addTank(10, 7, 0));
        due.is("2 its sum begins at 0", 0, () -> x.levelSum(2));
        due.is("2 its mean is over the whole time", 0.0, () -> x.meanLevel(2));
    }

    private static void addTankAtItsLimits() {
        x = new TankPlant();
        due.is("2 least", 0, () -> x.addTank(1, 0, 0));
        due.is("2 least and full", 1, () -> x.addTank(1, 1, 0));
        due.is("2 greatest", 2, () -> x.addTank(1000000000, 1000000000, 1000000));
        due.is("2 greatest and empty", 3, () -> x.addTank(1000000000, 0, 1000000));
        for (int i = 4; i < 8; i++) {
            int number = i;
            due.is("2 tank " + number, number, () -> x.addTank(5, number - 3, 0));
        }
        due.isRefused("2 a ninth", STATE, x, () -> x.addTank(5, 0, 0));
        due.isRefused("2 a wrong ninth", ARGUMENT, x, () -> x.addTank(0, 0, 0));
        due.isRefused("2 a wrong ninth by level", ARGUMENT, x, () -> x.addTank(5, 6, 0));
        due.isRefused("2 a wrong ninth by leak", ARGUMENT, x, () -> x.addTank(5, 0, -1));
        due.is("2 the eighth stands", 4, () -> x.level(7));
        due.is("2 a tick", 0, () -> x.run(1));
        due.is("2 the greatest leak", 999000000, () -> x.level(2));
    }

    private static void addSwitch() {
        x = new TankPlant();
        due.isRefused("3 no tank", INDEX, x, () -> x.addSwitch(0, 1, 2));
        x.addTank(10, 5, 0);
        x.addTank(100, 5, 0);
        due.isRefused("3 tank -1", INDEX, x, () -> x.addSwitch(-1, 1, 2));
        due.isRefused("3 tank 2", INDEX, x, () -> x.addSwitch(2, 1, 2));
        due.isRefused("3 tank 8", INDEX, x, () -> x.addSwitch(8, 1, 2));
        due.isRefused("3 tank highest", INDEX, x, () -> x.addSwitch(HIGHEST, 1, 2));
        due.isRefused("3 no tank comes before wrong marks", INDEX, x, () -> x.addSwitch(2, 5, 5));
        due.isRefused("3 low -1", ARGUMENT, x, () -> x.addSwitch(0, -1, 5));
        due.isRefused("3 low = high", ARGUMENT, x, () -> x.addSwitch(0, 5, 5));
        due.isRefused("3 low > high", ARGUMENT, x, () -> x.addSwitch(0, 6, 5));
        due.isRefused("3 high above the capacity", ARGUMENT, x, () -> x.addSwitch(0, 5, 11));
        due.isRefused("3 high highest", ARGUMENT, x, () -> x.addSwitch(0, 5, HIGHEST));
        due.isRefused("3 low lowest", ARGUMENT, x, () -> x.addSwitch(0, LOWEST, 5));
        due.is("3 the widest", 0, () -> x.addSwitch(0, 0, 10));
        due.is("3 the narrowest at the top", 1, () -> x.addSwitch(0, 9, 10));
        due.is("3 the narrowest at the bottom", 2, () -> x.addSwitch(0, 0, 1));
        due.is("3 by the capacity of its own tank", 3, () -> x.addSwitch(1, 5, 100));
        due.is("3 is off at first, low or not", false, () -> x.isOn(3));
        due.is("3 no change yet", 0, () -> x.changeCount());
        due.is("3 the first tick turns on what is low", 2, () -> x.run(1));
        due.is("3 off between", false, () -> x.isOn(0));
        due.is("3 on below", true, () -> x.isOn(1));
        due.is("3 off above", false, () -> x.isOn(2));
        due.is("3 on at the low mark", true, () -> x.isOn(3));
    }

    private static void addSwitchAtItsLimit() {
        x = new TankPlant();
        x.addTank(10, 5, 0);
        for (int i = 0; i < 10; i++) {
            int number = i;
            due.is("3 switch " + number, number, () -> x.addSwitch(0, 1, 2 + number % 8));
        }
        due.isRefused("3 an eleventh", STATE, x, () -> x.addSwitch(0, 1, 2));
        due.isRefused("3 a wrong eleventh", ARGUMENT, x, () -> x.addSwitch(0, 2, 2));
        due.isRefused("3 an eleventh without tank", INDEX, x, () -> x.addSwitch(1, 2, 2));
    }

    private static void addPump() {
        x = new TankPlant();
        x.addTank(100, 50, 0);
        x.addTank(100, 0, 0);
        x.addSwitch(0, 10, 50);
        due.is("4 from outside", 0, () -> x.addPump(-1, 0, 5, 2, -1, false));
        due.is("4 to outside", 1, () -> x.addPump(1, -1, 1, 100, -1, true));
        due.is("4 between tanks", 2, () -> x.addPump(0, 1, 7, 1, -1, false));
        due.is("4 while on", 3, () -> x.addPump(-1, 1, 11, 3, 0, false));
        due.is("4 while off", 4, () -> x.addPump(-1, 1, 13, 3, 0, true));
        due.is("4 ledgers are 0", 0, () -> x.total(4) + x.energy(4) + x.shortTicks(4));
        due.is("4 its rate", 13, () -> x.setRate(4, 13));
        x.run(1);
        due.is("4 moved in", 5, () -> x.total(0));
        due.is("4 energy by lift", 10, () -> x.energy(0));
        due.is("4 found nothing, without a switch always active", 1, () -> x.shortTicks(1));
        due.is("4 moved between", 7, () -> x.total(2));
        due.is("4 idle while off", 0, () -> x.total(3));
        due.is("4 an idle pump has no short tick", 0, () -> x.shortTicks(3));
        due.is("4 inverted is active while off", 13, () -> x.total(4));
        due.is("4 level of the first", 48, () -> x.level(0));
        due.is("4 level of the second", 20, () -> x.level(1));
        x.setLevel(0, 10);
        x.run(1);
        due.is("4 active while on", 11, () -> x.total(3));
        due.is("4 inverted is idle while on", 13, () -> x.total(4));
    }

    private static void addPumpRefusals() {
        x = new TankPlant();
        x.addTank(10, 5, 0);
        x.addTank(10, 5, 0);
        x.addSwitch(0, 1, 2);
        due.isRefused("4 from -2", INDEX, x, () -> x.addPump(-2, 0, 1, 0, -1, false));
        due.isRefused("4 from 2", INDEX, x, () -> x.addPump(2, 0, 1, 0, -1, false));
        due.isRefused("4 to -2", INDEX, x, () -> x.addPump(0, -2, 1, 0, -1, false));
        due.isRefused("4 to 2", INDEX, x, () -> x.addPump(0, 2, 1, 0, -1, false));
        due.isRefused("4 to highest", INDEX, x, () -> x.addPump(0, HIGHEST, 1, 0, -1, false));
        due.isRefused("4 from lowest", INDEX, x, () -> x.addPump(LOWEST, 0, 1, 0, -1, false));
        due.isRefused("4 control -2", INDEX, x, () -> x.addPump(-1, 0, 1, 0, -2, false));
        due.isRefused("4 control 1", INDEX, x, () -> x.addPump(-1, 0, 1, 0, 1, false));
        due.isRefused("4 wrong from comes first", INDEX, x, () -> x.addPump(2, 2, 0, -1, -1, false));
        due.isRefused("4 wrong control comes before the same ends", INDEX, x, () -> x.addPump(0, 0, 1, 0, 1, false));
        due.isRefused("4 wrong control comes before the rate", INDEX, x, () -> x.addPump(-1, 0, 0, 0, 1, false));
        due.isRefused("4 wrong control comes before the lift", INDEX, x, () -> x.addPump(-1, 0, 1, 101, 1, false));
        due.isRefused("4 a tank to itself", ARGUMENT, x, () -> x.addPump(1, 1, 1, 0, -1, false));
        due.isRefused("4 outside to outside", ARGUMENT, x, () -> x.addPump(-1, -1, 1, 0, -1, false));
        due.isRefused("4 rate 0", ARGUMENT, x, () -> x.addPump(-1, 0, 0, 0, -1, false));
        due.isRefused("4 rate -1", ARGUMENT, x, () -> x.addPump(-1, 0, -1, 0, -1, false));
        due.isRefused("4 rate 1000001", ARGUMENT, x, () -> x.addPump(-1, 0, 1000001, 0, -1, false));
        due.isRefused("4 lift -1", ARGUMENT, x, () -> x.addPump(-1, 0, 1, -1, -1, false));
        due.isRefused("4 lift 101", ARGUMENT, x, () -> x.addPump(-1, 0, 1, 101, -1, false));
    }

    private static void addPumpAtItsLimit() {
        x = new TankPlant();
        x.addTank(1000000000, 0, 0);
        due.is("4 greatest", 0, () -> x.addPump(-1, 0, 1000000, 100, -1, false));
        for (int i = 1; i < 16; i++) {
            int number = i;
            due.is("4 pump " + number, number, () -> x.addPump(-1, 0, 1, 0, -1, false));
        }
        due.isRefused("4 a seventeenth", STATE, x, () -> x.addPump(-1, 0, 1, 0, -1, false));
        due.isRefused("4 a wrong seventeenth", ARGUMENT, x, () -> x.addPump(-1, 0, 0, 0, -1, false));
        due.isRefused("4 a seventeenth without tank", INDEX, x, () -> x.addPump(-1, 1, 1, 0, -1, false));
        x.run(1);
        due.is("4 all of them move", 1000015, () -> x.level(0));
        due.is("4 the greatest energy of a tick", 100000000, () -> x.energy(0));
    }

    private static void setLevel() {
        x = new TankPlant();
        due.isRefused("5 no tank", INDEX, x, () -> x.setLevel(0, 0));
        x.addTank(10, 5, 0);
        due.isRefused("5 tank 1", INDEX, x, () -> x.setLevel(1, 0));
        due.isRefused("5 tank -1", INDEX, x, () -> x.setLevel(-1, 0));
        due.isRefused("5 no tank comes before a wrong level", INDEX, x, () -> x.setLevel(1, -1));
        due.isRefused("5 level -1", ARGUMENT, x, () -> x.setLevel(0, -1));
        due.isRefused("5 level above the capacity", ARGUMENT, x, () -> x.setLevel(0, 11));
        due.is("5 to the capacity", 5, () -> x.setLevel(0, 10));
        due.is("5 to 0", 10, () -> x.setLevel(0, 0));
        due.is("5 to the same", 0, () -> x.setLevel(0, 0));
        due.is("5 the level is set", 0, () -> x.level(0));
        due.is("5 the sum is not touched", 0, () -> x.levelSum(0));
        due.is("5 up again", 0, () -> x.setLevel(0, 7));
        due.is("5 it is seen", 7, () -> x.level(0));
    }

    private static void setLeak() {
        x = new TankPlant();
        due.isRefused("6 no tank", INDEX, x, () -> x.setLeak(0, 0));
        x.addTank(1000000000, 1000000000, 5);
        due.isRefused("6 tank 1", INDEX, x, () -> x.setLeak(1, 0));
        due.isRefused("6 tank -1", INDEX, x, () -> x.setLeak(-1, 0));
        due.isRefused("6 no tank comes before a wrong leak", INDEX, x, () -> x.setLeak(1, -1));
        due.isRefused("6 leak -1", ARGUMENT, x, () -> x.setLeak(0, -1));
        due.isRefused("6 leak 1000001", ARGUMENT, x, () -> x.setLeak(0, 1000001));
        due.is("6 to the greatest", 5, () -> x.setLeak(0, 1000000));
        x.run(2);
        due.is("6 it leaks so", 998000000, () -> x.level(0));
        due.is("6 to 0", 1000000, () -> x.setLeak(0, 0));
        x.run(2);
        due.is("6 it leaks no more", 998000000, () -> x.level(0));
    }

    private static void setRate() {
        x = new TankPlant();
        due.isRefused("7 no pump", INDEX, x, () -> x.setRate(0, 1));
        x.addTank(1000000000, 0, 0);
        x.addPump(-1, 0, 5, 0, -1, false);
        due.isRefused("7 pump 1", INDEX, x, () -> x.setRate(1, 1));
        due.isRefused("7 pump -1", INDEX, x, () -> x.setRate(-1, 1));
        due.isRefused("7 no pump comes before a wrong rate", INDEX, x, () -> x.setRate(1, 0));
        due.isRefused("7 rate 0", ARGUMENT, x, () -> x.setRate(0, 0));
        due.isRefused("7 rate -1", ARGUMENT, x, () -> x.setRate(0, -1));
        due.isRefused("7 rate 1000001", ARGUMENT, x, () -> x.setRate(0, 1000001));
        due.is("7 to the greatest", 5, () -> x.setRate(0, 1000000));
        x.run(3);
        due.is("7 it moves so", 3000000, () -> x.level(0));
        due.is("7 to the least", 1000000, () -> x.setRate(0, 1));
        x.run(1);
        due.is("7 it moves so", 3000001, () -> x.level(0));
        due.is("7 no tick was short", 0, () -> x.shortTicks(0));
    }
}
