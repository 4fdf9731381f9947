/** The edges of promises 8 to 11: numbers of ticks, levels that are reached just so, the time. */
public final class RunEdgesTest {
    private static final int GREATEST = 1000000000;

    private static final Due due = new Due();

    public static void main(String[] args) {
        numbersOfTicks();
        noTickAtAll();
        numberOfChanges();
        untilRefusals();
        untilItIsSoAlready();
        untilJustTheLevel();
        untilTheLastTick();
        untilBehindATick();
        untilALevelThatNoTankHas();
        untilEmptyOrFull();
        untilWithChanges();
        nextChangeRefusals();
        nextChangeInTheFirstTick();
        nextChangeInTheLastTick();
        nextChangeIsTheFirst();
        nextChangeOfAnyPart();
        nextChangeChangesNothing();
        whatTheTimeCounts();
        due.end();
    }

    /** A tank whose level moves by one in each tick, up or down. */
    private static TankPlant moving(int level, boolean isUp) {
        TankPlant x = new TankPlant();
        x.addTank(GREATEST, level, 0);
        x.addPump(isUp ? -1 : 0, isUp ? 0 : -1, 1, 0, -1, false);
        return x;
    }

    /** "how many, 0 to 5000" */
    private static void numbersOfTicks() {
        int[] rights = {0, 1, 2, 4999, 5000};
        for (int ticks : rights) {
            due.gives("8, 11 " + ticks + " ticks", ticks, Plants::wide, x -> {
                x.run(ticks);
                return x.time();
            });
        }
        int[] wrongs = {-1, -2, Due.LOWEST, 5001, Due.HIGHEST};
        for (int ticks : wrongs) {
            due.refuses("8 " + ticks + " ticks of an empty plant", Due.ARGUMENT, Plants::empty, x -> x.run(ticks));
            due.refuses("8 " + ticks + " ticks", Due.ARGUMENT, Plants::small, x -> x.run(ticks));
            due.refuses("8 " + ticks + " ticks of a full plant", Due.ARGUMENT, Plants::full, x -> x.run(ticks));
        }
    }

    private static void noTickAtAll() {
        due.gives("8 no change in no tick, though one is due", 0, Plants::swinging, x -> x.run(0));
        due.leaves("8 no tick", Plants::swinging, x -> x.run(0));
        due.leaves("8 no tick of a full plant", Plants::full, x -> x.run(0));
        due.leaves("8 no tick of an empty plant", Plants::empty, x -> x.run(0));
    }

    /** "Returns the number of changes": of this call alone, of all switches. */
    private static void numberOfChanges() {
        TankPlant x = Plants.swinging();
        due.is("8 one in each tick", 5000, () -> x.run(5000));
        due.is("8 of this call alone", 1, () -> x.run(1));
        TankPlant y = Plants.swinging();
        for (int i = 1; i < 10; i++) {
            y.addSwitch(0, i, 20 - i);
        }
        due.is("8 ten in a tick", 10, () -> y.run(1));
        due.is("8 the most of a call", 50000, () -> y.run(5000));
        due.gives("8 none without a switch", 0, () -> moving(0, true), z -> z.run(5000));
    }

    /** "if there is no such tank", then "if most is not 0 to 5000" */
    private static void untilRefusals() {
        due.numbers("9 tank", 2, Plants::small, (x, i) -> x.runUntil(i, 0, false, 0));
        due.numbers("9 tank", 8, Plants::full, (x, i) -> x.runUntil(i, 0, false, 0));
        int[] wrongs = {-1, -2, Due.LOWEST, 5001, Due.HIGHEST};
        for (int most : wrongs) {
            due.refuses("9 " + most + " ticks", Due.ARGUMENT, Plants::small, x -> x.runUntil(0, 70, false, most));
            due.refuses("9 " + most + " ticks, though it is so already", Due.ARGUMENT, Plants::small,
                    x -> x.runUntil(0, 50, false, most));
            due.refuses("9 " + most + " ticks, at most, already so", Due.ARGUMENT, Plants::small,
                    x -> x.runUntil(0, 50, true, most));
            due.refuses("9 no tank comes before " + most + " ticks", Due.INDEX, Plants::small,
                    x -> x.runUntil(2, 50, true, most));
            due.refuses("9 tank -1 comes before " + most + " ticks", Due.INDEX, Plants::small,
                    x -> x.runUntil(-1, 50, true, most));
        }
        due.gives("9 the least number of ticks", -1, Plants::small, x -> x.runUntil(0, 70, false, 0));
        due.gives("9 the greatest number of ticks", 4, Plants::small, x -> x.runUntil(0, 70, false, 5000));
    }

    /** "If it is so already, no tick is run." */
    private static void untilItIsSoAlready() {
        int[] mosts = {0, 1, 5000};
        for (int most : mosts) {
            int[] below = {50, 49, 0};
            for (int level : below) {
                due.gives("9 50 is at least " + level, 0, Plants::small, x -> x.runUntil(0, level, false, most));
                due.leaves("9 50 is at least " + level, Plants::small, x -> x.runUntil(0, level, false, most));
            }
            int[] above = {50, 51, 100};
            for (int level : above) {
                due.gives("9 50 is at most " + level, 0, Plants::small, x -> x.runUntil(0, level, true, most));
                due.leaves("9 50 is at most " + level, Plants::small, x -> x.runUntil(0, level, true, most));
            }
        }
        due.leaves("9 no switch changes then, though it is due", Plants::swinging, x -> x.runUntil(0, 0, true, 5000));
    }

    /** "at least (or at most) some level": the level itself is enough, one beside it is not. */
    private static void untilJustTheLevel() {
        due.gives("9 up to just the level", 10, () -> moving(50, true), x -> x.runUntil(0, 60, false, 5000));
        due.gives("9 down to just the level", 10, () -> moving(50, false), x -> x.runUntil(0, 40, true, 5000));
        due.gives("9 up by one", 1, () -> moving(50, true), x -> x.runUntil(0, 51, false, 5000));
        due.gives("9 down by one", 1, () -> moving(50, false), x -> x.runUntil(0, 49, true, 5000));
        TankPlant up = moving(50, true);
        up.setRate(0, 7);
        due.is("9 up past the level: 57, 64, 71", 3, () -> up.runUntil(0, 65, false, 5000));
        due.is("12 above it", 71, () -> up.level(0));
        due.is("11 so many ticks", 3, () -> up.time());
        TankPlant down = moving(50, false);
        down.setRate(0, 7);
        due.is("9 down past the level: 43, 36, 29", 3, () -> down.runUntil(0, 35, true, 5000));
        due.is("12 below it", 29, () -> down.level(0));
        due.is("11 so many ticks", 3, () -> down.time());
    }

    /** "or some number of ticks has been run"; "-1 if the level was not reached (then that is most)" */
    private static void untilTheLastTick() {
        int[] mosts = {1, 2, 30, 4999, 5000};
        for (int most : mosts) {
            TankPlant up = moving(10000, true);
            due.is("9 up, just in the last of " + most, most, () -> up.runUntil(0, 10000 + most, false, most));
            due.is("11 of " + most, most, () -> up.time());
            due.is("9 up, one too few of " + most, -1, () -> up.runUntil(0, 10001 + 2 * most, false, most));
            due.is("11 all of them were run, " + most, 2 * most, () -> up.time());
            due.is("12 up to one below, " + most, 10000 + 2 * most, () -> up.level(0));
            TankPlant down = moving(10000, false);
            due.is("9 down, just in the last of " + most, most, () -> down.runUntil(0, 10000 - most, true, most));
            due.is("11 of " + most, most, () -> down.time());
            due.is("9 down, one too few of " + most, -1, () -> down.runUntil(0, 9999 - 2 * most, true, most));
            due.is("11 all of them were run, " + most, 2 * most, () -> down.time());
            due.is("12 down to one above, " + most, 10000 - 2 * most, () -> down.level(0));
        }
        TankPlant none = moving(50, true);
        due.is("9 no tick is enough for no other level", -1, () -> none.runUntil(0, 51, false, 0));
        due.is("11 none was run", 0, () -> none.time());
    }

    /** "until the level of a tank is, behind a tick, at least (or at most) some level" */
    private static void untilBehindATick() {
        TankPlant x = new TankPlant();
        x.addTank(100, 0, 5);
        x.addPump(-1, 0, 10, 0, -1, false);
        due.is("9 10 before the leak is 5 behind the tick", 2, () -> x.runUntil(0, 10, false, 5000));
        due.is("12 behind two ticks", 10, () -> x.level(0));
        TankPlant y = new TankPlant();
        y.addTank(100, 20, 0);
        y.addPump(0, -1, 10, 0, -1, false);
        y.addPump(-1, 0, 10, 0, -1, false);
        due.is("9 10 between two pumps does not count", -1, () -> y.runUntil(0, 10, true, 5000));
        due.is("12 behind each tick", 20, () -> y.level(0));
    }

    /** The document names no level that is refused. */
    private static void untilALevelThatNoTankHas() {
        int[] tooLow = {-1, Due.LOWEST, Due.LOWEST + 1};
        int[] tooHigh = {101, Due.HIGHEST, Due.HIGHEST - 1};
        for (int level : tooLow) {
            due.gives("9 at most " + level, -1, Plants::small, x -> x.runUntil(0, level, true, 100));
            due.gives("9, 11 all were run", 135, Plants::small, x -> {
                x.runUntil(0, level, true, 100);
                return x.time();
            });
            due.gives("9 at least " + level, 0, Plants::small, x -> x.runUntil(0, level, false, 100));
        }
        for (int level : tooHigh) {
            due.gives("9 at least " + level, -1, Plants::small, x -> x.runUntil(0, level, false, 100));
            due.gives("9, 11 all were run", 135, Plants::small, x -> {
                x.runUntil(0, level, false, 100);
                return x.time();
            });
            due.gives("9 at most " + level, 0, Plants::small, x -> x.runUntil(0, level, true, 100));
        }
    }

    private static void untilEmptyOrFull() {
        due.gives("9 until it is empty", 50, () -> moving(50, false), x -> x.runUntil(0, 0, true, 5000));
        due.gives("9 until it is full", 50, () -> moving(GREATEST - 50, true), x -> x.runUntil(0, GREATEST, false, 5000));
        due.gives("9 the full are at least their capacity", 0, () -> moving(GREATEST, true),
                x -> x.runUntil(0, GREATEST, false, 5000));
        due.gives("9 the empty are at most 0", 0, () -> moving(0, false), x -> x.runUntil(0, 0, true, 5000));
        due.gives("9 the empty do not rise", -1, () -> moving(0, false), x -> x.runUntil(0, 1, false, 5000));
    }

    private static void untilWithChanges() {
        TankPlant x = Plants.swinging();
        due.is("9 full behind the first tick", 1, () -> x.runUntil(0, 20, false, 5000));
        due.is("20 with its change", 1, () -> x.changeCount());
        due.is("9 empty behind the next", 1, () -> x.runUntil(0, 0, true, 5000));
        due.is("20 with its change", 2, () -> x.changeCount());
        TankPlant y = Plants.small();
        due.is("9 up to 80 in 5 ticks, where it turns, and down to 30 in 50", 55, () -> y.runUntil(0, 30, true, 5000));
        due.is("20 one change more", 2, () -> y.changeCount());
    }

    /** "the number of ticks that are looked at, 1 to 5000" */
    private static void nextChangeRefusals() {
        int[] wrongs = {0, -1, Due.LOWEST, 5001, Due.HIGHEST};
        for (int most : wrongs) {
            due.refuses("10 " + most + " of an empty plant", Due.ARGUMENT, Plants::empty, x -> x.nextChange(most));
            due.refuses("10 " + most, Due.ARGUMENT, Plants::swinging, x -> x.nextChange(most));
            due.refuses("10 " + most + " of a full plant", Due.ARGUMENT, Plants::full, x -> x.nextChange(most));
        }
        due.gives("10 the least", 1, Plants::swinging, x -> x.nextChange(1));
        due.gives("10 the greatest", 1, Plants::swinging, x -> x.nextChange(5000));
    }

    /** "the number of the first tick, from 1" */
    private static void nextChangeInTheFirstTick() {
        int[] mosts = {1, 2, 5000};
        for (int most : mosts) {
            due.gives("10 in the first of " + most, 1, () -> falling(20, 20), x -> x.nextChange(most));
            due.gives("10 not in the first of " + most, most == 1 ? -1 : 2, () -> falling(21, 20),
                    x -> x.nextChange(most));
            due.gives("10 turned off in the first of " + most, 1, () -> rising(80, 80), x -> x.nextChange(most));
            due.gives("10 not turned off in the first of " + most, most == 1 ? -1 : 2, () -> rising(79, 80),
                    x -> x.nextChange(most));
        }
    }

    /** It falls by one in each tick; the switch is off, and on at the mark. */
    private static TankPlant falling(int level, int mark) {
        TankPlant x = moving(level, false);
        x.addSwitch(0, mark, GREATEST);
        return x;
    }

    /** It rises by one in each tick; the switch is on, and off at the mark. */
    private static TankPlant rising(int level, int mark) {
        TankPlant x = moving(0, true);
        x.addSwitch(0, 0, mark);
        x.run(1);
        x.setLevel(0, level);
        return x;
    }

    /** "-1 if there is none among these ticks" */
    private static void nextChangeInTheLastTick() {
        int[] mosts = {1, 2, 3, 100, 4999, 5000};
        for (int most : mosts) {
            due.gives("10 falling, in the last of " + most, most, () -> falling(10 + most - 1, 10),
                    x -> x.nextChange(most));
            due.gives("10 falling, behind the last of " + most, -1, () -> falling(10 + most, 10),
                    x -> x.nextChange(most));
            due.gives("10 rising, in the last of " + most, most, () -> rising(9000 - most + 1, 9000),
                    x -> x.nextChange(most));
            due.gives("10 rising, behind the last of " + most, -1, () -> rising(9000 - most, 9000),
                    x -> x.nextChange(most));
        }
        due.gives("10 none without a switch", -1, () -> moving(50, true), x -> x.nextChange(5000));
    }

    private static void nextChangeIsTheFirst() {
        TankPlant x = falling(50, 10);
        x.addSwitch(0, 30, GREATEST);
        due.is("10 the switch with the higher mark comes first", 21, () -> x.nextChange(5000));
        x.run(21);
        due.is("22 it was the second switch", 1, () -> x.changeSwitch(0));
        due.is("10 then the other", 20, () -> x.nextChange(5000));
        TankPlant y = Plants.small();
        int[] between = {6, 60, 10, 60, 10};
        for (int ticks : between) {
            due.is("10 up by 6 to 80, down by 1 to 20, in turn", ticks, () -> y.nextChange(5000));
            due.is("8 no change before the tick that is told", 0, () -> y.run(ticks - 1));
            due.is("8 and one in it", 1, () -> y.run(1));
        }
    }

    /** What it looks at is the plant as it is: each tank, control and inversion. */
    private static void nextChangeOfAnyPart() {
        boolean[] choices = {false, true};
        for (boolean isInverted : choices) {
            due.gives("10 a pump that is idle while the switch is off, or inverted: " + isInverted,
                    isInverted ? 31 : -1, () -> pumpedOut(0, isInverted), x -> x.nextChange(5000));
            due.gives("10 the switch and the pump of the last tank, " + isInverted, isInverted ? 31 : -1,
                    () -> pumpedOut(7, isInverted), x -> x.nextChange(5000));
        }
        TankPlant leaking = new TankPlant();
        leaking.addTank(100, 100, 0);
        leaking.addTank(100, 50, 3);
        leaking.addSwitch(0, 0, 100);
        leaking.addSwitch(1, 20, 80);
        due.is("10 by a leak alone", 11, () -> leaking.nextChange(5000));
        leaking.setLeak(1, 5);
        due.is("10 by a leak that is set", 7, () -> leaking.nextChange(5000));
        leaking.setLevel(1, 30);
        due.is("10 by a level that is set", 3, () -> leaking.nextChange(5000));
    }

    /** Tank number 0 to 7 is at 50, with a switch at 20 that is off and controls a pump to outside. */
    private static TankPlant pumpedOut(int tank, boolean isInverted) {
        TankPlant x = new TankPlant();
        for (int i = 0; i <= tank; i++) {
            x.addTank(100, 50, 0);
        }
        x.addSwitch(tank, 20, 80);
        x.addPump(tank, -1, 1, 0, 0, isInverted);
        return x;
    }

    /** "Nothing changes." */
    private static void nextChangeChangesNothing() {
        due.leaves("10", Plants::empty, x -> x.nextChange(5000));
        due.leaves("10", Plants::small, x -> x.nextChange(5000));
        due.leaves("10", Plants::full, x -> x.nextChange(5000));
        due.leaves("10 with no change found", Plants::wide, x -> x.nextChange(5000));
        due.leaves("10 with one found at once", Plants::swinging, x -> x.nextChange(1));
        due.leaves("10 called twice", Plants::full, x -> x.nextChange(5000) + x.nextChange(5000));
        due.leaves("10 a depot is as it was", Plants::small, x -> {
            x.save();
            x.nextChange(5000);
            return x.restore();
        });
    }

    private static void whatTheTimeCounts() {
        TankPlant x = Plants.small();
        x.nextChange(5000);
        x.setLevel(0, 60);
        x.addTank(5, 0, 0);
        x.save();
        due.is("11 not what runs no tick", 35, () -> x.time());
        x.run(5000);
        x.runUntil(0, 101, false, 5000);
        due.is("11 each tick", 10035, () -> x.time());
        x.restore();
        due.is("11 back again", 35, () -> x.time());
    }
}
