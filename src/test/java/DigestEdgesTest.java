/** The edges of promise 25: the sum before and behind its wrapping around, and each of its numbers. */
public final class DigestEdgesTest {
    private static final Due due = new Due();

    public static void main(String[] args) {
        beforeAndBehindTheWrap();
        belowZero();
        ofAFullPlant();
        largeLedgers();
        depotsCount();
        whatItDoesNotHave();
        due.end();
    }

    /** "which wraps around as a 64-bit integer" */
    private static void beforeAndBehindTheWrap() {
        TankPlant x = new TankPlant();
        x.addTank(10, 9, 8);
        x.addSwitch(0, 0, 1);
        x.addSwitch(0, 0, 1);
        x.addSwitch(0, 0, 1);
        long[] numbers = {0, 1, 3, 0, 0, 9, 8, 0, 0, 0, 0};
        due.holds("25 eleven numbers still fit", !Sums.wraps(numbers));
        due.is("25 the last that fit", Sums.digestOf(numbers), () -> x.digest());
        x.addSwitch(0, 0, 1);
        long[] more = {0, 1, 4, 0, 0, 9, 8, 0, 0, 0, 0, 0};
        due.holds("25 twelve do not", Sums.wraps(more));
        due.is("25 the first that wrap around", Sums.digestOf(more), () -> x.digest());
    }

    private static void belowZero() {
        int negative = 0;
        int positive = 0;
        for (int i = 0; i < 40; i++) {
            int level = i;
            TankPlant x = new TankPlant();
            x.addTank(100, 1, 2);
            x.addTank(100, 3, 4);
            x.addTank(100, 5, 6);
            x.addTank(100, level, 8);
            long want = Sums.digestOf(0, 4, 0, 0, 0, 1, 2, 3, 4, 5, 6, level, 8, 0);
            due.is("25 with level " + level, want, () -> x.digest());
            x.run(level);
            x.save();
            long behind = Sums.digestOf(level, 4, 0, 0, 1, left(1, 2, level), 2, left(3, 4, level), 4, left(5, 6, level), 6,
                    left(level, 8, level), 8, 0);
            due.is("25 with time " + level, behind, () -> x.digest());
            negative += behind < 0 ? 1 : 0;
            positive += behind > 0 ? 1 : 0;
        }
        due.holds("25 some of them are below 0, and some above", negative > 0 && positive > 0);
    }

    private static int left(int level, int leak, int ticks) {
        return Math.max(0, level - leak * ticks);
    }

    /** All numbers of the largest plant, in the order that the document tells. */
    private static void ofAFullPlant() {
        for (int ticks = 0; ticks < 12; ticks++) {
            TankPlant x = Plants.full();
            x.run(ticks);
            long[] numbers = new long[5 + 16 + 10 + 64 + 1];
            int n = 0;
            numbers[n++] = x.time();
            numbers[n++] = 8;
            numbers[n++] = 10;
            numbers[n++] = 16;
            numbers[n++] = 4;
            for (int i = 0; i < 8; i++) {
                numbers[n++] = x.level(i);
                numbers[n++] = i % 3;
            }
            for (int i = 0; i < 10; i++) {
                numbers[n++] = x.isOn(i) ? 1 : 0;
            }
            for (int i = 0; i < 16; i++) {
                numbers[n++] = (i % 2 == 0 ? 3 : 2) + i / 2;
                numbers[n++] = x.total(i);
                numbers[n++] = x.energy(i);
                numbers[n++] = x.shortTicks(i);
            }
            numbers[n++] = x.changeCount();
            due.is("25 of a full plant, behind " + ticks, Sums.digestOf(numbers), () -> x.digest());
        }
    }

    /** Numbers beyond what an int holds go in whole. */
    private static void largeLedgers() {
        TankPlant x = new TankPlant();
        x.addTank(1000000000, 0, 1000000);
        x.addPump(-1, 0, 1000000, 100, -1, false);
        x.run(5000);
        due.is("25 a large total and energy",
                Sums.digestOf(5000, 1, 0, 1, 0, 0, 1000000, 1000000, 5000000000L, 500000000000L, 0, 0), () -> x.digest());
        TankPlant y = new TankPlant();
        y.addTank(1000000000, 1000000000, 0);
        y.addPump(-1, 0, 1, 100, -1, false);
        y.run(5000);
        due.is("25 many short ticks", Sums.digestOf(5000, 1, 0, 1, 0, 1000000000, 0, 1, 0, 0, 5000, 0), () -> y.digest());
    }

    /** "the numbers of tanks, of switches, of pumps and of depots" */
    private static void depotsCount() {
        TankPlant x = new TankPlant();
        for (int i = 0; i <= 4; i++) {
            int depots = i;
            due.is("25 with " + depots + " depots", Sums.digestOf(0, 0, 0, 0, depots, 0), () -> x.digest());
            if (i < 4) {
                x.save();
            }
        }
        for (int i = 3; i >= 0; i--) {
            x.restore();
            int depots = i;
            due.is("25 with " + depots + " depots again", Sums.digestOf(0, 0, 0, 0, depots, 0), () -> x.digest());
        }
    }

    private static void whatItDoesNotHave() {
        TankPlant x = new TankPlant();
        x.addTank(100, 50, 0);
        x.addSwitch(0, 1, 2);
        x.addPump(-1, 0, 3, 4, 0, false);
        TankPlant y = new TankPlant();
        y.addTank(70, 50, 0);
        y.addSwitch(0, 3, 60);
        y.addPump(0, -1, 3, 9, 0, false);
        due.is("25 nothing of capacities, marks, ends and lifts", x.digest(), () -> y.digest());
    }
}
