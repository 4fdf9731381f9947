import java.math.BigDecimal;
import java.math.MathContext;

/** The edges of promises 12 to 19: which numbers are refused, and the greatest and least answers. */
public final class ShowEdgesTest {
    private static final int GREATEST = 1000000000;

    private static final Due due = new Due();

    public static void main(String[] args) {
        tanksThatThereAre();
        pumpsThatThereAre();
        meansAtTimeZero();
        meansBehindTicks();
        meansToTheNearest();
        meansOfTheGreatest();
        sumsOfTheGreatest();
        balances();
        askingChangesNothing();
        theLastOf512Calls();
        due.end();
    }

    /** "if there is no such tank" */
    private static void tanksThatThereAre() {
        due.numbers("12 level", 2, Plants::small, (x, i) -> x.level(i));
        due.numbers("13 levelSum", 2, Plants::small, (x, i) -> x.levelSum(i));
        due.numbers("14 meanLevel", 2, Plants::small, (x, i) -> x.meanLevel(i));
        due.numbers("14 meanLevel at time 0", 8, Plants::wide, (x, i) -> x.meanLevel(i));
        due.numbers("12 level", 8, Plants::full, (x, i) -> x.level(i));
        due.numbers("13 levelSum", 8, Plants::full, (x, i) -> x.levelSum(i));
        due.numbers("14 meanLevel", 8, Plants::full, (x, i) -> x.meanLevel(i));
    }

    /** "if there is no such pump" */
    private static void pumpsThatThereAre() {
        due.numbers("16 total", 1, Plants::small, (x, i) -> x.total(i));
        due.numbers("17 energy", 1, Plants::small, (x, i) -> x.energy(i));
        due.numbers("18 shortTicks", 1, Plants::small, (x, i) -> x.shortTicks(i));
        due.numbers("16 total", 16, Plants::full, (x, i) -> x.total(i));
        due.numbers("17 energy", 16, Plants::full, (x, i) -> x.energy(i));
        due.numbers("18 shortTicks", 16, Plants::full, (x, i) -> x.shortTicks(i));
    }

    private static TankPlant of(int capacity, int level, int leak) {
        TankPlant x = new TankPlant();
        x.addTank(capacity, level, leak);
        return x;
    }

    /** "its level, if the time is 0" */
    private static void meansAtTimeZero() {
        due.gives("14 of an empty tank", 0.0, () -> of(10, 0, 0), x -> x.meanLevel(0));
        due.gives("14 of a full tank", 1.0e9, () -> of(GREATEST, GREATEST, 0), x -> x.meanLevel(0));
        TankPlant x = of(10, 7, 1);
        due.is("14 its level", 7.0, () -> x.meanLevel(0));
        x.setLevel(0, 3);
        due.is("14 its level when that is set", 3.0, () -> x.meanLevel(0));
        x.run(0);
        due.is("14 still at time 0", 3.0, () -> x.meanLevel(0));
        x.save();
        x.run(1);
        x.setLevel(0, 9);
        due.is("14 no more the level at time 1", 2.0, () -> x.meanLevel(0));
        x.restore();
        due.is("14 its level again, at time 0 again", 3.0, () -> x.meanLevel(0));
    }

    /** "the sum of its levels divided by the time, rounded to the nearest double" */
    private static void meansBehindTicks() {
        TankPlant x = of(10, 1, 0);
        x.run(1);
        due.is("14 behind one tick", 1.0, () -> x.meanLevel(0));
        x.setLevel(0, 0);
        x.run(1);
        due.is("14 a half, not cut off", 0.5, () -> x.meanLevel(0));
        x.run(1);
        due.is("14 a third, to the nearest", 1.0 / 3.0, () -> x.meanLevel(0));
        x.run(4);
        due.is("14 a seventh, to the nearest", 1.0 / 7.0, () -> x.meanLevel(0));
        due.gives("14 a sum of 0", 0.0, () -> of(10, 0, 0), y -> {
            y.run(5000);
            return y.meanLevel(0);
        });
        TankPlant late = new TankPlant();
        late.run(3);
        late.addTank(10, 10, 0);
        due.is("14 a late tank: no sum yet, and the time is not 0", 0.0, () -> late.meanLevel(0));
        late.run(1);
        due.is("14 a late tank: by the whole time", 2.5, () -> late.meanLevel(0));
    }

    /** "rounded to the nearest double": once, and neither up nor down alone. */
    private static void meansToTheNearest() {
        TankPlant low = of(10, 0, 0);
        TankPlant high = of(GREATEST, 0, 0);
        for (int i = 1; i <= 90; i++) {
            meanBehind(low, i % 4, 1 + i % 13);
            meanBehind(high, i * 7919 % 1000 * 1000003 % GREATEST, i % 4 == 0 ? 4999 : i);
        }
    }

    private static void meanBehind(TankPlant x, int level, int ticks) {
        x.setLevel(0, level);
        x.run(ticks);
        BigDecimal sum = BigDecimal.valueOf(x.levelSum(0));
        BigDecimal time = BigDecimal.valueOf(x.time());
        double nearest = sum.divide(time, new MathContext(60)).doubleValue();
        due.is("14 of " + sum + " in " + time, nearest, () -> x.meanLevel(0));
    }

    private static void meansOfTheGreatest() {
        TankPlant x = of(GREATEST, GREATEST, 0);
        for (int i = 0; i < 500; i++) {
            x.run(5000);
        }
        due.is("14 always full", 1.0e9, () -> x.meanLevel(0));
        x.setLevel(0, 1);
        x.run(1);
        due.is("13 the sum", 2500000000000001L, () -> x.levelSum(0));
        due.is("14 to the nearest double", 2500000000000001.0 / 2500001.0, () -> x.meanLevel(0));
    }

    private static void sumsOfTheGreatest() {
        due.gives("13 of the greatest level over the most ticks", 5000L * GREATEST, () -> of(GREATEST, GREATEST, 0),
                x -> {
                    x.run(5000);
                    return x.levelSum(0);
                });
        due.gives("13 of an empty tank", 0, () -> of(GREATEST, 0, 1000000), x -> {
            x.run(5000);
            return x.levelSum(0);
        });
        due.gives("13 before the first tick", 0, () -> of(GREATEST, GREATEST, 0), x -> x.levelSum(0));
    }

    /** "what came from outside minus what went outside by pumps, in total" */
    private static void balances() {
        due.gives("19 without pumps, with leaks", 0, () -> of(GREATEST, GREATEST, 1000000), x -> {
            x.run(5000);
            return x.balance();
        });
        TankPlant x = of(GREATEST, 0, 0);
        x.addTank(GREATEST, GREATEST, 0);
        x.addPump(-1, 0, 1, 0, -1, false);
        x.addPump(1, -1, 1000000, 0, -1, false);
        x.addPump(1, 0, 3, 0, -1, false);
        due.is("19 before the first tick", 0, () -> x.balance());
        x.run(1);
        due.is("19 below 0", -999999, () -> x.balance());
        x.setLevel(1, 0);
        x.setLevel(0, GREATEST);
        due.is("19 levels that are set do not count", -999999, () -> x.balance());
        x.run(1);
        due.is("19 nothing could be moved", -999999, () -> x.balance());
        TankPlant out = of(GREATEST, GREATEST, 0);
        for (int i = 0; i < 15; i++) {
            out.addPump(0, -1, 1000000, 0, -1, false);
        }
        for (int i = 0; i < 4; i++) {
            out.run(5000);
            out.setLevel(0, GREATEST);
        }
        due.is("19 below what an int holds", -4L * GREATEST, () -> out.balance());
        TankPlant in = of(GREATEST, 0, 1000000);
        in.addPump(-1, 0, 1000000, 0, -1, false);
        in.run(5000);
        due.is("19 above what an int holds", 5000000000L, () -> in.balance());
    }

    private static void askingChangesNothing() {
        due.leaves("11 to 22, 25 to ask", Plants::full, x -> Shown.by(x).length());
        due.leaves("11 to 22, 25 to ask", Plants::small, x -> Shown.by(x).length());
        due.leaves("11 to 22, 25 to ask", Plants::empty, x -> Shown.by(x).length());
    }

    /** "An object is used for at most 512 calls after it has been made" */
    private static void theLastOf512Calls() {
        TankPlant x = Plants.swinging();
        for (int i = 4; i < 509; i++) {
            x.run(5000);
        }
        due.is("8 the 510th call", 5000, () -> x.run(5000));
        due.is("11 the 511th call", 506L * 5000, () -> x.time());
        due.is("20 the 512th call", 506L * 5000, () -> x.changeCount());
    }
}
