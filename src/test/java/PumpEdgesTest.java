/** The edges of promises 4 and 7: numbers of pumps, their ends, rates, lifts and controls. */
public final class PumpEdgesTest {
    private static final int GREATEST = 1000000000;
    private static final int GREATEST_RATE = 1000000;

    private static final Due due = new Due();

    public static void main(String[] args) {
        atMostSixteen();
        ends();
        controls();
        sameEnds();
        rates();
        lifts();
        newLedgersAreEmpty();
        withoutASwitchInvertedMeansNothing();
        wrongNumbersComeFirst();
        wrongArgumentsComeBeforeTooMany();
        setRates();
        due.end();
    }

    private static TankPlant withRate(int rate, int lift) {
        TankPlant x = new TankPlant();
        x.addTank(GREATEST, 0, 0);
        x.addPump(-1, 0, rate, lift, -1, false);
        return x;
    }

    /** "Pumps. There are at most 16, numbered from 0." */
    private static void atMostSixteen() {
        TankPlant x = new TankPlant();
        x.addTank(1000, 0, 0);
        for (int i = 0; i < 16; i++) {
            int number = i;
            due.is("4 pump " + number, number, () -> x.addPump(-1, 0, number + 1, 0, -1, false));
        }
        x.run(2);
        for (int i = 0; i < 16; i++) {
            int number = i;
            due.is("4, 16 pump " + number + " has its own rate", 2 * (number + 1), () -> x.total(number));
        }
        due.refuses("4 a seventeenth", Due.STATE, Plants::full, y -> y.addPump(0, -1, 1, 0, -1, false));
        due.refuses("4 a seventeenth, the greatest, with a switch", Due.STATE, Plants::full,
                y -> y.addPump(7, 0, GREATEST_RATE, 100, 9, true));
    }

    /** "from or to is neither -1 nor a tank" */
    private static void ends() {
        int[] noTanks = {-2, 2, 8, Due.LOWEST, Due.HIGHEST};
        for (int tank : noTanks) {
            due.refuses("4 from " + tank + " of 2", Due.INDEX, Plants::small, x -> x.addPump(tank, 0, 1, 0, -1, false));
            due.refuses("4 to " + tank + " of 2", Due.INDEX, Plants::small, x -> x.addPump(0, tank, 1, 0, -1, false));
            due.refuses("4 outside to " + tank, Due.INDEX, Plants::small, x -> x.addPump(-1, tank, 1, 0, -1, false));
            due.refuses("4 " + tank + " to outside", Due.INDEX, Plants::small, x -> x.addPump(tank, -1, 1, 0, -1, false));
        }
        int[][] rights = {{-1, 0}, {-1, 7}, {0, -1}, {7, -1}, {0, 7}, {7, 0}, {6, 7}};
        for (int[] r : rights) {
            Due.Maker maker = () -> {
                TankPlant x = Plants.wide();
                x.addPump(r[0], r[1], 1, 0, -1, false);
                x.run(1);
                return x;
            };
            String what = "4 from " + r[0] + " to " + r[1] + ": ";
            due.gives(what + "the total", 1, maker, x -> x.total(0));
            for (int i = 0; i < 8; i++) {
                int tank = i;
                int level = 5 * (i + 1) + (i == r[1] ? 1 : 0) - (i == r[0] ? 1 : 0);
                due.gives(what + "level of " + i, level, maker, x -> x.level(tank));
            }
        }
        due.refuses("4 from 8 of 8", Due.INDEX, Plants::wide, x -> x.addPump(8, 0, 1, 0, -1, false));
        due.refuses("4 to 8 of 8", Due.INDEX, Plants::wide, x -> x.addPump(0, 8, 1, 0, -1, false));
    }

    /** "control is neither -1 nor a switch" */
    private static void controls() {
        int[] noSwitches = {-2, 1, 10, Due.LOWEST, Due.HIGHEST};
        for (int control : noSwitches) {
            due.refuses("4 control " + control + " of 1", Due.INDEX, Plants::small,
                    x -> x.addPump(-1, 0, 1, 0, control, false));
            due.refuses("4 inverted control " + control + " of 1", Due.INDEX, Plants::small,
                    x -> x.addPump(-1, 0, 1, 0, control, true));
        }
        due.gives("4 control 0 of 1", 1, Plants::small, x -> x.addPump(-1, 0, 1, 0, 0, false));
        due.gives("4 no control", 1, Plants::small, x -> x.addPump(-1, 0, 1, 0, -1, false));
        due.gives("4 control 9 of 10", 0, Plants::wide, x -> x.addPump(-1, 0, 1, 0, 9, false));
        due.refuses("4 control 10 of 10", Due.INDEX, Plants::wide, x -> x.addPump(-1, 0, 1, 0, 10, false));
        TankPlant x = Plants.wide();
        x.setLevel(1, 2);
        x.addPump(-1, 2, 1, 0, 9, false);
        x.addPump(-1, 2, 1, 0, 8, false);
        x.addPump(-1, 2, 1, 0, 9, true);
        x.run(1);
        due.is("4, 16 the last switch, of the second tank, is on", 1, () -> x.total(0));
        due.is("4, 16 the one before it is off", 0, () -> x.total(1));
        due.is("4, 16 inverted it rests", 0, () -> x.total(2));
    }

    /** "if from and to are the same" */
    private static void sameEnds() {
        due.refuses("4 outside to outside", Due.ARGUMENT, Plants::small, x -> x.addPump(-1, -1, 1, 0, -1, false));
        due.refuses("4 the first tank to itself", Due.ARGUMENT, Plants::small, x -> x.addPump(0, 0, 1, 0, -1, false));
        due.refuses("4 the last tank to itself", Due.ARGUMENT, Plants::wide, x -> x.addPump(7, 7, 1, 0, 9, true));
        due.gives("4 one beside the other", 1, Plants::small, x -> x.addPump(0, 1, 1, 0, -1, false));
    }

    /** "it has a rate from 1 to 1000000" */
    private static void rates() {
        int[] rights = {1, 2, GREATEST_RATE - 1, GREATEST_RATE};
        for (int rate : rights) {
            due.gives("4 rate " + rate, rate, () -> withRate(rate, 0), x -> x.setRate(0, 1));
            due.gives("4, 16 rate " + rate + " moves so much", rate, () -> withRate(rate, 0), x -> {
                x.run(1);
                return x.total(0);
            });
        }
        int[] wrongs = {0, -1, Due.LOWEST, GREATEST_RATE + 1, Due.HIGHEST};
        for (int rate : wrongs) {
            due.refuses("4 rate " + rate, Due.ARGUMENT, Plants::small, x -> x.addPump(-1, 0, rate, 0, -1, false));
        }
    }

    /** "and a lift from 0 to 100" */
    private static void lifts() {
        int[] rights = {0, 1, 99, 100};
        for (int lift : rights) {
            due.gives("4, 17 lift " + lift, 3 * lift, () -> withRate(3, lift), x -> {
                x.run(1);
                return x.energy(0);
            });
        }
        int[] wrongs = {-1, Due.LOWEST, 101, Due.HIGHEST};
        for (int lift : wrongs) {
            due.refuses("4 lift " + lift, Due.ARGUMENT, Plants::small, x -> x.addPump(-1, 0, 1, lift, -1, false));
        }
    }

    /** "The time is 0 at first, and so are all totals, energies, short ticks and sums." */
    private static void newLedgersAreEmpty() {
        due.gives("4, 16 the total of a new pump", 0, Plants::small, x -> x.total(x.addPump(-1, 0, 1, 1, -1, false)));
        due.gives("4, 17 its energy", 0, Plants::small, x -> x.energy(x.addPump(-1, 0, 1, 1, -1, false)));
        due.gives("4, 18 its short ticks", 0, Plants::small, x -> x.shortTicks(x.addPump(-1, 0, 1, 1, -1, false)));
    }

    /** "or by none, then it is always active" and "(no meaning without a switch)" */
    private static void withoutASwitchInvertedMeansNothing() {
        boolean[] choices = {false, true};
        for (boolean isInverted : choices) {
            TankPlant x = Plants.wide();
            x.addPump(-1, 7, 2, 0, -1, isInverted);
            x.run(1);
            due.is("4, 16 active while switch 0 is off, inverted " + isInverted, 2, () -> x.total(0));
            x.setLevel(0, 0);
            x.run(1);
            due.is("4, 15 switch 0 is on", true, () -> x.isOn(0));
            due.is("4, 16 active while it is on, inverted " + isInverted, 4, () -> x.total(0));
        }
    }

    /** "If several exceptions apply, the one that is named first is thrown." */
    private static void wrongNumbersComeFirst() {
        int[][] wrongs = {
            {2, 2, 1, 0, -1}, {-2, -2, 1, 0, -1}, {2, 0, 0, 0, -1}, {2, 0, 1, 101, -1}, {-2, 0, 1000001, -1, -1},
            {0, 2, 0, 0, -1}, {0, -2, 1, -1, -1}, {0, 2, 1000001, 101, 0},
            {0, 0, 1, 0, 1}, {-1, -1, 1, 0, -2}, {-1, 0, 0, 0, 1}, {-1, 0, 1000001, 0, 1}, {-1, 0, 1, -1, 1},
            {-1, 0, 1, 101, -2}, {0, 0, 0, 101, 1}, {2, 2, 0, 101, 1},
        };
        for (int[] w : wrongs) {
            due.refuses("4 a wrong number first: " + textOf(w), Due.INDEX, Plants::small, x -> add(x, w));
        }
        int[][] wrongsOfFull = {{8, 0, 1, 0, -1}, {0, 8, 1, 0, -1}, {0, 1, 1, 0, 10}, {-2, -2, 0, 101, -2}, {0, 0, 1, 0, 10}};
        for (int[] w : wrongsOfFull) {
            due.refuses("4 a wrong number first, with 16 pumps: " + textOf(w), Due.INDEX, Plants::full, x -> add(x, w));
        }
    }

    private static void wrongArgumentsComeBeforeTooMany() {
        int[][] wrongs = {
            {0, 0, 1, 0, -1}, {-1, -1, 1, 0, -1}, {7, 7, 1, 0, 9}, {-1, 0, 0, 0, -1}, {-1, 0, 1000001, 0, -1},
            {-1, 0, 1, -1, -1}, {-1, 0, 1, 101, -1}, {0, 0, 0, 101, -1},
        };
        for (int[] w : wrongs) {
            due.refuses("4 a wrong seventeenth: " + textOf(w), Due.ARGUMENT, Plants::full, x -> add(x, w));
        }
    }

    private static int add(TankPlant x, int[] p) {
        return x.addPump(p[0], p[1], p[2], p[3], p[4], false);
    }

    private static String textOf(int[] p) {
        return "from " + p[0] + " to " + p[1] + ", rate " + p[2] + ", lift " + p[3] + ", control " + p[4];
    }

    /** "if there is no such pump" and "if rate is not 1 to 1000000" */
    private static void setRates() {
        TankPlant x = withRate(5, 1);
        due.is("7 to the greatest", 5, () -> x.setRate(0, GREATEST_RATE));
        due.is("7 to the greatest again", GREATEST_RATE, () -> x.setRate(0, GREATEST_RATE));
        x.run(1);
        due.is("7 to the least", GREATEST_RATE, () -> x.setRate(0, 1));
        due.is("7 to the least again", 1, () -> x.setRate(0, 1));
        x.run(1);
        due.is("7, 16 both were moved", GREATEST_RATE + 1, () -> x.total(0));
        due.is("7, 17 the energies too", GREATEST_RATE + 1, () -> x.energy(0));
        int[] wrongs = {0, -1, Due.LOWEST, GREATEST_RATE + 1, Due.HIGHEST};
        for (int rate : wrongs) {
            due.refuses("7 rate " + rate, Due.ARGUMENT, Plants::small, y -> y.setRate(0, rate));
            due.refuses("7 rate " + rate + " of no pump", Due.INDEX, Plants::small, y -> y.setRate(1, rate));
            due.refuses("7 rate " + rate + " of pump -1", Due.INDEX, Plants::small, y -> y.setRate(-1, rate));
        }
        due.numbers("7 pump", 1, Plants::small, (y, i) -> y.setRate(i, 1));
        due.numbers("7 pump", 16, Plants::full, (y, i) -> y.setRate(i, 1));
        due.leaves("7 the rate that it has", Plants::small, y -> y.setRate(0, 7));
    }
}
