/** The edges of promises 2, 5 and 6: numbers of tanks, capacities, levels and leaks. */
public final class TankEdgesTest {
    private static final int GREATEST = 1000000000;
    private static final int GREATEST_LEAK = 1000000;

    private static final Due due = new Due();

    public static void main(String[] args) {
        atMostEight();
        capacities();
        capacitiesStand();
        levels();
        leaks();
        aNewTankHasNoSum();
        wrongArgumentsComeBeforeTooMany();
        setLevels();
        setLevelSetsNothingElse();
        setLeaks();
        whatSetRefusesFirst();
        due.end();
    }

    private static TankPlant of(int capacity, int level, int leak) {
        TankPlant x = new TankPlant();
        x.addTank(capacity, level, leak);
        return x;
    }

    /** "There are at most 8, numbered from 0." */
    private static void atMostEight() {
        TankPlant x = new TankPlant();
        for (int i = 0; i < 8; i++) {
            int number = i;
            due.is("2 tank " + number, number, () -> x.addTank(10, number, 0));
        }
        for (int i = 0; i < 8; i++) {
            int number = i;
            due.is("2 tank " + number + " has its own level", number, () -> x.level(number));
        }
        due.refuses("2 a ninth", Due.STATE, Plants::wide, y -> y.addTank(10, 5, 0));
        due.refuses("2 a ninth, the least", Due.STATE, Plants::full, y -> y.addTank(1, 0, 0));
        due.refuses("2 a ninth, the greatest", Due.STATE, Plants::full,
                y -> y.addTank(GREATEST, GREATEST, GREATEST_LEAK));
    }

    /** "A tank has a capacity from 1 to 1000000000" */
    private static void capacities() {
        due.gives("2 the least capacity", 2, Plants::small, x -> x.addTank(1, 0, 0));
        due.gives("2 the greatest capacity", 2, Plants::small, x -> x.addTank(GREATEST, 0, 0));
        int[] wrongs = {0, -1, Due.LOWEST, GREATEST + 1, Due.HIGHEST};
        for (int wrong : wrongs) {
            due.refuses("2 capacity " + wrong, Due.ARGUMENT, Plants::small, x -> x.addTank(wrong, 0, 0));
            due.refuses("2 capacity " + wrong + ", full", Due.ARGUMENT, Plants::small, x -> x.addTank(wrong, wrong, 0));
        }
    }

    private static void capacitiesStand() {
        int[] capacities = {1, 2, 10, GREATEST - 1, GREATEST};
        for (int capacity : capacities) {
            Due.Maker maker = () -> of(capacity, 0, 0);
            due.gives("2, 5 up to capacity " + capacity, 0, maker, x -> x.setLevel(0, capacity));
            due.refuses("2, 5 above capacity " + capacity, Due.ARGUMENT, maker, x -> x.setLevel(0, capacity + 1));
            due.gives("2, 3 a mark at capacity " + capacity, 0, maker, x -> x.addSwitch(0, 0, capacity));
            due.refuses("2, 3 a mark above " + capacity, Due.ARGUMENT, maker, x -> x.addSwitch(0, 0, capacity + 1));
        }
    }

    /** "a level from 0 to its capacity" */
    private static void levels() {
        int[] capacities = {1, 10, GREATEST};
        for (int capacity : capacities) {
            due.gives("2 level 0 of " + capacity, 0, () -> of(capacity, 0, 0), x -> x.level(0));
            due.gives("2 level 1 of " + capacity, 1, () -> of(capacity, 1, 0), x -> x.level(0));
            due.gives("2 the level is the capacity " + capacity, capacity, () -> of(capacity, capacity, 0),
                    x -> x.level(0));
            int[] wrongs = {-1, Due.LOWEST, capacity + 1, Due.HIGHEST};
            for (int wrong : wrongs) {
                due.refuses("2 level " + wrong + " of " + capacity, Due.ARGUMENT, Plants::small,
                        x -> x.addTank(capacity, wrong, 0));
            }
        }
    }

    /** "and a leak from 0 to 1000000" */
    private static void leaks() {
        due.gives("2 the least leak", 0, () -> of(10, 5, 0), x -> x.setLeak(0, 1));
        due.gives("2 the greatest leak", GREATEST_LEAK, () -> of(10, 5, GREATEST_LEAK), x -> x.setLeak(0, 1));
        int[] wrongs = {-1, Due.LOWEST, GREATEST_LEAK + 1, Due.HIGHEST};
        for (int wrong : wrongs) {
            due.refuses("2 leak " + wrong, Due.ARGUMENT, Plants::small, x -> x.addTank(10, 5, wrong));
        }
    }

    /** "The time is 0 at first, and so are all ... sums." */
    private static void aNewTankHasNoSum() {
        due.gives("2, 13 at time 0", 0, Plants::empty, x -> x.levelSum(x.addTank(10, 10, 0)));
        due.gives("2, 13 at a later time", 0, Plants::small, x -> x.levelSum(x.addTank(10, 10, 0)));
    }

    /** "If several exceptions apply, the one that is named first is thrown." */
    private static void wrongArgumentsComeBeforeTooMany() {
        int[][] wrongs = {{0, 0, 0}, {GREATEST + 1, 0, 0}, {10, -1, 0}, {10, 11, 0}, {10, 5, -1}, {10, 5, GREATEST_LEAK + 1}};
        for (int[] w : wrongs) {
            due.refuses("2 a ninth that is wrong too: " + w[0] + ", " + w[1] + ", " + w[2], Due.ARGUMENT, Plants::full,
                    x -> x.addTank(w[0], w[1], w[2]));
        }
    }

    /** "if level is not 0 to the capacity" */
    private static void setLevels() {
        int[] capacities = {1, 10, GREATEST};
        for (int capacity : capacities) {
            TankPlant x = of(capacity, capacity, 0);
            due.is("5 from full to 0", capacity, () -> x.setLevel(0, 0));
            due.is("5 to 0 again", 0, () -> x.setLevel(0, 0));
            due.is("12 it is 0", 0, () -> x.level(0));
            due.is("5 from 0 to full", 0, () -> x.setLevel(0, capacity));
            due.is("5 to full again", capacity, () -> x.setLevel(0, capacity));
            due.is("12 it is full", capacity, () -> x.level(0));
            int[] wrongs = {-1, Due.LOWEST, capacity + 1, Due.HIGHEST};
            for (int wrong : wrongs) {
                due.refuses("5 level " + wrong + " of " + capacity, Due.ARGUMENT, () -> of(capacity, 1, 0),
                        y -> y.setLevel(0, wrong));
            }
        }
        due.refuses("5 the capacity of another tank is no measure", Due.ARGUMENT, Plants::small, x -> x.setLevel(1, 11));
        due.gives("5 nor for the greater one", 50, Plants::small, x -> x.setLevel(0, 100));
        due.numbers("5 tank", 2, Plants::small, (x, i) -> x.setLevel(i, 10));
        due.numbers("5 tank", 8, Plants::full, (x, i) -> x.setLevel(i, 20));
    }

    private static void setLevelSetsNothingElse() {
        due.leaves("5 the level that it has", Plants::small, x -> x.setLevel(0, 50));
        due.leaves("5 there and back", Plants::full, x -> {
            int before = x.setLevel(3, 0);
            return x.setLevel(3, before);
        });
        TankPlant x = Plants.small();
        x.setLevel(0, 80);
        due.is("5, 15 a switch waits for a tick", true, () -> x.isOn(0));
        due.is("5, 20 no change is logged", 1, () -> x.changeCount());
        due.is("5, 11 no time goes by", 35, () -> x.time());
        due.is("5, 13 no sum is touched", 1225, () -> x.levelSum(0));
        due.is("5, 19 no balance", 35, () -> x.balance());
        due.is("5, 12 the other tank is as it was", 10, () -> x.level(1));
        due.is("8 the tick has it", 1, () -> x.run(1));
    }

    /** "if leak is not 0 to 1000000" */
    private static void setLeaks() {
        TankPlant x = of(GREATEST, GREATEST, 3);
        due.is("6 to the greatest", 3, () -> x.setLeak(0, GREATEST_LEAK));
        due.is("6 to the greatest again", GREATEST_LEAK, () -> x.setLeak(0, GREATEST_LEAK));
        x.run(1);
        due.is("6, 12 it leaks so", GREATEST - GREATEST_LEAK, () -> x.level(0));
        due.is("6 to 0", GREATEST_LEAK, () -> x.setLeak(0, 0));
        due.is("6 to 0 again", 0, () -> x.setLeak(0, 0));
        x.run(1);
        due.is("6, 12 it leaks no more", GREATEST - GREATEST_LEAK, () -> x.level(0));
        int[] wrongs = {-1, Due.LOWEST, GREATEST_LEAK + 1, Due.HIGHEST};
        for (int wrong : wrongs) {
            due.refuses("6 leak " + wrong, Due.ARGUMENT, Plants::small, y -> y.setLeak(0, wrong));
        }
        due.gives("6 a leak may be above the capacity", 0, Plants::small, y -> y.setLeak(1, 11));
        due.numbers("6 tank", 2, Plants::small, (y, i) -> y.setLeak(i, 1));
        due.numbers("6 tank", 8, Plants::full, (y, i) -> y.setLeak(i, 1));
        due.leaves("6 the leak that it has", Plants::small, y -> y.setLeak(0, 1));
    }

    /** "If several exceptions apply, the one that is named first is thrown." */
    private static void whatSetRefusesFirst() {
        int[] noTanks = {-1, 2, Due.LOWEST, Due.HIGHEST};
        for (int tank : noTanks) {
            due.refuses("5 no tank " + tank + ", and level -1", Due.INDEX, Plants::small, x -> x.setLevel(tank, -1));
            due.refuses("5 no tank " + tank + ", and level highest", Due.INDEX, Plants::small,
                    x -> x.setLevel(tank, Due.HIGHEST));
            due.refuses("6 no tank " + tank + ", and leak -1", Due.INDEX, Plants::small, x -> x.setLeak(tank, -1));
            due.refuses("6 no tank " + tank + ", and leak 1000001", Due.INDEX, Plants::small,
                    x -> x.setLeak(tank, GREATEST_LEAK + 1));
        }
    }
}
