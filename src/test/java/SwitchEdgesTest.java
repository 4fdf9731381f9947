/** The edges of promises 3 and 15: numbers of switches, their marks, and what they are at first. */
public final class SwitchEdgesTest {
    private static final int GREATEST = 1000000000;

    private static final Due due = new Due();

    public static void main(String[] args) {
        atMostTen();
        marks();
        marksAtTheEndsOfATank();
        marksByTheirOwnTank();
        tanks();
        offAtFirst();
        whatComesFirst();
        due.end();
    }

    private static TankPlant tankOf(int capacity) {
        TankPlant x = new TankPlant();
        x.addTank(capacity, 0, 0);
        return x;
    }

    /** "Switches. There are at most 10, numbered from 0." */
    private static void atMostTen() {
        TankPlant x = tankOf(20);
        for (int i = 0; i < 10; i++) {
            int number = i;
            due.is("3 switch " + number, number, () -> x.addSwitch(0, number, 20));
        }
        x.setLevel(0, 9);
        due.is("3 only the tenth has such a low mark", 1, () -> x.run(1));
        due.is("3, 15 it is on", true, () -> x.isOn(9));
        due.is("3, 15 the ninth is not", false, () -> x.isOn(8));
        due.refuses("3 an eleventh", Due.STATE, Plants::wide, y -> y.addSwitch(0, 0, 1));
        due.refuses("3 an eleventh, the widest, for the last tank", Due.STATE, Plants::wide, y -> y.addSwitch(7, 0, 80));
        due.refuses("3 an eleventh, when all is full", Due.STATE, Plants::full, y -> y.addSwitch(7, 5, 6));
        due.numbers("15 switch", 1, Plants::small, (y, i) -> y.isOn(i));
        due.numbers("15 switch", 10, Plants::full, (y, i) -> y.isOn(i));
    }

    /** "0 <= low < high <= capacity" */
    private static void marks() {
        int[][] rights = {{0, 1}, {0, 100}, {99, 100}, {0, 99}, {1, 100}, {49, 50}};
        for (int[] r : rights) {
            due.gives("3 marks " + r[0] + ", " + r[1] + " of 100", 1, Plants::small, x -> x.addSwitch(0, r[0], r[1]));
        }
        int[][] wrongs = {
            {-1, 50}, {-1, 0}, {Due.LOWEST, 50}, {Due.LOWEST, Due.HIGHEST}, {-2, -1},
            {0, 0}, {50, 50}, {100, 100}, {51, 50}, {1, 0}, {100, 99}, {50, -1}, {50, Due.LOWEST},
            {0, 101}, {99, 101}, {100, 101}, {50, Due.HIGHEST}, {101, 102}, {Due.HIGHEST, Due.LOWEST},
        };
        for (int[] w : wrongs) {
            due.refuses("3 marks " + w[0] + ", " + w[1] + " of 100", Due.ARGUMENT, Plants::small,
                    x -> x.addSwitch(0, w[0], w[1]));
        }
    }

    private static void marksAtTheEndsOfATank() {
        due.gives("3 the only marks of the least tank", 0, () -> tankOf(1), x -> x.addSwitch(0, 0, 1));
        due.refuses("3 marks 0, 2 of 1", Due.ARGUMENT, () -> tankOf(1), x -> x.addSwitch(0, 0, 2));
        due.refuses("3 marks 1, 1 of 1", Due.ARGUMENT, () -> tankOf(1), x -> x.addSwitch(0, 1, 1));
        due.refuses("3 marks 1, 2 of 1", Due.ARGUMENT, () -> tankOf(1), x -> x.addSwitch(0, 1, 2));
        due.gives("3 the highest marks", 0, () -> tankOf(GREATEST), x -> x.addSwitch(0, GREATEST - 1, GREATEST));
        due.gives("3 the widest marks", 0, () -> tankOf(GREATEST), x -> x.addSwitch(0, 0, GREATEST));
        due.refuses("3 above the highest", Due.ARGUMENT, () -> tankOf(GREATEST), x -> x.addSwitch(0, 0, GREATEST + 1));
    }

    private static void marksByTheirOwnTank() {
        due.gives("3 up to the capacity of the second", 1, Plants::small, x -> x.addSwitch(1, 9, 10));
        due.refuses("3 above that of the second, below that of the first", Due.ARGUMENT, Plants::small,
                x -> x.addSwitch(1, 9, 11));
        due.gives("3 above that of the second, for the first", 1, Plants::small, x -> x.addSwitch(0, 9, 11));
    }

    /** "if there is no such tank" */
    private static void tanks() {
        due.numbers("3 tank", 2, Plants::small, (x, i) -> x.addSwitch(i, 0, 1));
        due.numbers("3 tank", 8, () -> {
            TankPlant x = new TankPlant();
            for (int i = 0; i < 8; i++) {
                x.addTank(5, 5, 0);
            }
            return x;
        }, (x, i) -> x.addSwitch(i, 4, 5));
        TankPlant x = new TankPlant();
        for (int i = 0; i < 8; i++) {
            x.addTank(5, i == 7 ? 0 : 5, 0);
        }
        x.addSwitch(0, 0, 5);
        x.addSwitch(7, 0, 5);
        due.is("3 it watches the tank that it is given", 1, () -> x.run(1));
        due.is("3, 22 the one of the last tank", 1, () -> x.changeSwitch(0));
    }

    /** "Adds a switch, which is off." and "it is on or off, off at first" */
    private static void offAtFirst() {
        int[] levels = {0, 19, 20, 21, 80, 100};
        for (int level : levels) {
            TankPlant x = tankOf(100);
            x.setLevel(0, level);
            x.addSwitch(0, 20, 80);
            due.is("3, 15 off at level " + level + ", until a tick", false, () -> x.isOn(0));
            due.is("3, 20 no change", 0, () -> x.changeCount());
            x.run(0);
            due.is("3, 15 still off at level " + level, false, () -> x.isOn(0));
            x.run(1);
            due.is("3, 15 behind a tick at level " + level, level <= 20, () -> x.isOn(0));
        }
        TankPlant x = Plants.small();
        x.addSwitch(0, 60, 61);
        due.is("3, 15 one that is added late is off too", false, () -> x.isOn(1));
        due.is("3, 15 the other stays on", true, () -> x.isOn(0));
        due.is("3 the late one changes in the next tick", 1, () -> x.run(1));
    }

    /** "If several exceptions apply, the one that is named first is thrown." */
    private static void whatComesFirst() {
        int[] noTanks = {-1, 2, Due.HIGHEST, Due.LOWEST};
        for (int tank : noTanks) {
            due.refuses("3 no tank " + tank + ", and wrong marks", Due.INDEX, Plants::small, x -> x.addSwitch(tank, 5, 5));
            due.refuses("3 no tank " + tank + ", and a wrong low mark", Due.INDEX, Plants::small,
                    x -> x.addSwitch(tank, -1, 5));
        }
        due.refuses("3 no tank, and there are 10 switches", Due.INDEX, Plants::full, x -> x.addSwitch(8, 0, 1));
        due.refuses("3 no tank, wrong marks, and there are 10 switches", Due.INDEX, Plants::full,
                x -> x.addSwitch(-1, 1, 1));
        int[][] wrongs = {{-1, 5}, {5, 5}, {6, 5}, {5, 21}};
        for (int[] w : wrongs) {
            due.refuses("3 marks " + w[0] + ", " + w[1] + ", and there are 10 switches", Due.ARGUMENT, Plants::full,
                    x -> x.addSwitch(0, w[0], w[1]));
        }
    }
}
