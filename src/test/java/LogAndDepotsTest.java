/** Promises 20 to 25 in ordinary use: the log, the depots and the digest. */
public final class LogAndDepotsTest {
    private static final Due due = new Due();
    private static TankPlant x;

    public static void main(String[] args) {
        logOfAFewChanges();
        logKeepsTheLatest();
        logOfSeveralSwitches();
        restoreBringsBackAll();
        whatWasAddedVanishes();
        restoresGoBackwards();
        digest();
        digestSeesEachNumber();
        due.end();
    }

    private static void logOfAFewChanges() {
        x = Plants.swinging();
        due.is("20 at first", 0, () -> x.changeCount());
        x.run(3);
        due.is("20 three", 3, () -> x.changeCount());
        due.is("21 the first, at the time before its tick", 0, () -> x.changeTime(0));
        due.is("21 the last", 2, () -> x.changeTime(2));
        due.is("22 the last", 0, () -> x.changeSwitch(2));
    }

    private static void logKeepsTheLatest() {
        x = Plants.swinging();
        x.run(30);
        due.is("21 thirty are kept", 0, () -> x.changeTime(0));
        due.is("21 the thirtieth", 29, () -> x.changeTime(29));
        x.run(1);
        due.is("20 all are counted", 31, () -> x.changeCount());
        due.is("21 the oldest is gone", 1, () -> x.changeTime(0));
        due.is("21 the latest", 30, () -> x.changeTime(29));
        x.run(5000);
        due.is("20 all are counted", 5031, () -> x.changeCount());
        for (int i = 0; i < 30; i++) {
            int index = i;
            due.is("21 in their order " + index, 5001 + index, () -> x.changeTime(index));
        }
    }

    private static void logOfSeveralSwitches() {
        x = Plants.swinging();
        x.addTank(10, 0, 0);
        x.addSwitch(1, 3, 4);
        x.addSwitch(0, 0, 1);
        x.run(2);
        due.is("20 of all switches", 5, () -> x.changeCount());
        int[] numbers = {0, 1, 2, 0, 2};
        int[] times = {0, 0, 0, 1, 1};
        for (int i = 0; i < 5; i++) {
            int index = i;
            due.is("22 by number within a tick " + index, numbers[index], () -> x.changeSwitch(index));
            due.is("21 at the same time " + index, times[index], () -> x.changeTime(index));
        }
        x.run(14);
        due.is("20 thirty-three", 33, () -> x.changeCount());
        due.is("22 three are gone, the next is the oldest", 0, () -> x.changeSwitch(0));
        due.is("21 its time", 1, () -> x.changeTime(0));
        due.is("22 then the other of the same tick", 2, () -> x.changeSwitch(1));
        due.is("21 at the same time", 1, () -> x.changeTime(1));
        due.is("22 the latest", 2, () -> x.changeSwitch(29));
        due.is("21 its time", 15, () -> x.changeTime(29));
    }

    private static void restoreBringsBackAll() {
        x = Plants.swinging();
        x.addTank(50, 40, 1);
        x.addSwitch(1, 10, 30);
        x.addPump(-1, 1, 5, 7, 1, false);
        x.run(37);
        String before = Shown.by(x);
        x.save();
        x.run(41);
        x.setLevel(0, 3);
        x.setLevel(1, 44);
        x.setLeak(0, 2);
        x.setLeak(1, 9);
        x.setRate(0, 11);
        x.setRate(2, 1);
        x.run(3);
        due.holds("24 it has changed in between", !before.equals(Shown.by(x)));
        due.is("24 restored", 0, () -> x.restore());
        due.is("24 all is as it was", before, () -> Shown.by(x));
        due.is("24 the leak", 1, () -> x.setLeak(1, 1));
        due.is("24 the rate", 5, () -> x.setRate(2, 5));
        TankPlant same = Plants.swinging();
        same.addTank(50, 40, 1);
        same.addSwitch(1, 10, 30);
        same.addPump(-1, 1, 5, 7, 1, false);
        same.run(37);
        x.run(200);
        same.run(200);
        due.is("24 and goes on so", Shown.by(same), () -> Shown.by(x));
    }

    private static void whatWasAddedVanishes() {
        x = Plants.swinging();
        x.save();
        x.addTank(7, 7, 1);
        x.addSwitch(1, 6, 7);
        x.addPump(1, 0, 1, 1, -1, false);
        x.run(5);
        x.restore();
        due.is("24 the balance is as before", 0, () -> x.balance());
        due.is("24 a new tank takes the number", 1, () -> x.addTank(30, 2, 0));
        due.is("24 it is new", 2, () -> x.level(1));
        due.is("24 its sum is new", 0, () -> x.levelSum(1));
        due.is("24 by its own capacity", 1, () -> x.addSwitch(1, 1, 30));
        due.is("24 a new switch is off", false, () -> x.isOn(1));
        due.is("24 a new pump takes the number", 2, () -> x.addPump(-1, 1, 4, 2, -1, false));
        due.is("24 its ledgers are new", 0, () -> x.total(2) + x.energy(2) + x.shortTicks(2));
        x.run(1);
        due.is("24 the new pump", 8, () -> x.energy(2));
        due.is("24 the new tank", 6, () -> x.level(1));
    }

    private static void restoresGoBackwards() {
        x = Plants.swinging();
        x.addTank(1000, 0, 0);
        x.addPump(-1, 1, 1, 0, -1, false);
        x.save();
        x.run(10);
        x.save();
        x.run(10);
        x.restore();
        due.is("24 the latest", 10, () -> x.time());
        x.run(3);
        x.save();
        x.run(4);
        due.is("24 the latest that stands", 1, () -> x.restore());
        due.is("24 its time", 13, () -> x.time());
        due.is("24 its level", 13, () -> x.level(1));
        x.restore();
        due.is("24 then the one before", 0, () -> x.time());
        due.is("24 and its log", 0, () -> x.changeCount());
    }

    private static void digest() {
        x = Plants.swinging();
        x.addTank(50, 40, 3);
        x.addSwitch(1, 10, 30);
        x.addPump(1, -1, 5, 7, -1, false);
        x.save();
        x.run(6);
        long[] numbers = {6, 2, 2, 3, 1, 0, 0, 0, 3, 0, 1, 20, 60, 60, 0, 20, 60, 60, 0, 5, 25, 175, 1, 7};
        long want = Sums.digestOf(numbers);
        due.is("25 by hand", want, () -> x.digest());
        due.is("25 the same again", want, () -> x.digest());
    }

    private static void digestSeesEachNumber() {
        x = Plants.swinging();
        x.run(1);
        due.is("25 leaves all as it is", Shown.by(x), () -> Shown.by(x));
        differs("a level", () -> x.setLevel(0, 19));
        differs("a leak", () -> x.setLeak(0, 1));
        differs("a rate", () -> x.setRate(1, 19));
        differs("a tank", () -> x.addTank(1, 0, 0));
        differs("a switch", () -> x.addSwitch(0, 1, 2));
        differs("a pump", () -> x.addPump(0, 1, 1, 0, -1, false));
        differs("a depot", () -> x.save());
        differs("the time", () -> x.run(1));
    }

    private static void differs(String what, Due.Call change) {
        long before = x.digest();
        change.answer();
        due.holds("25 sees " + what, before != x.digest());
    }
}
