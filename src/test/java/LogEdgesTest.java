/** The edges of promises 20 to 22: no change yet, the 30 that the log has, and those beyond. */
public final class LogEdgesTest {
    private static final Due due = new Due();

    public static void main(String[] args) {
        latestThirty();
        inPieces();
        severalInATick();
        overflowWithinATick();
        farBeyond();
        noChangeNoEntry();
        restoredLogs();
        due.end();
    }

    private static TankPlant swung(int ticks) {
        TankPlant x = Plants.swinging();
        x.run(ticks);
        return x;
    }

    /** "The log has the latest 30 changes." and "an index in the log, from 0, the oldest change first" */
    private static void latestThirty() {
        int[] counts = {0, 1, 2, 28, 29, 30, 31, 32, 59, 60, 61, 90, 5000};
        for (int count : counts) {
            int kept = Math.min(count, 30);
            Due.Maker maker = () -> swung(count);
            due.gives("20 of " + count, count, maker, x -> x.changeCount());
            due.numbers("21 behind " + count + " changes, index", kept, maker, (x, i) -> x.changeTime(i));
            due.numbers("22 behind " + count + " changes, index", kept, maker, (x, i) -> x.changeSwitch(i));
            for (int i = 0; i < kept; i++) {
                int index = i;
                due.gives("21 time " + i + " of " + count, count - kept + i, maker, x -> x.changeTime(index));
                due.gives("22 switch " + i + " of " + count, 0, maker, x -> x.changeSwitch(index));
            }
            due.refuses("21 index 30 of " + count, Due.INDEX, maker, x -> x.changeTime(30));
            due.refuses("22 index 30 of " + count, Due.INDEX, maker, x -> x.changeSwitch(30));
        }
    }

    private static void inPieces() {
        TankPlant x = Plants.swinging();
        for (int i = 0; i < 65; i++) {
            x.run(1);
            int count = i + 1;
            due.is("20 by single ticks " + count, count, () -> x.changeCount());
            due.is("21 the oldest by single ticks " + count, Math.max(0, count - 30), () -> x.changeTime(0));
            due.is("21 the latest by single ticks " + count, count - 1, () -> x.changeTime(Math.min(count, 30) - 1));
        }
    }

    /** This many switches, all of which change in each tick. */
    private static TankPlant together(int switches) {
        TankPlant x = Plants.swinging();
        for (int i = 1; i < switches; i++) {
            x.addSwitch(0, 10 - i, 10 + i);
        }
        return x;
    }

    private static void severalInATick() {
        TankPlant x = together(10);
        x.run(3);
        due.is("20 just thirty, in three ticks", 30, () -> x.changeCount());
        for (int i = 0; i < 30; i++) {
            int index = i;
            due.is("21 time " + i, index / 10, () -> x.changeTime(index));
            due.is("22 switch " + i, index % 10, () -> x.changeSwitch(index));
        }
        x.run(1);
        due.is("20 forty", 40, () -> x.changeCount());
        for (int i = 0; i < 30; i++) {
            int index = i;
            due.is("21 time " + i + ", one tick later", 1 + index / 10, () -> x.changeTime(index));
            due.is("22 switch " + i + ", one tick later", index % 10, () -> x.changeSwitch(index));
        }
    }

    /** The log overflows between two changes of the same tick. */
    private static void overflowWithinATick() {
        int[] switches = {4, 7, 8, 9};
        for (int s : switches) {
            for (int ticks = 30 / s; ticks <= 60 / s + 1; ticks++) {
                TankPlant x = together(s);
                x.run(ticks);
                int count = s * ticks;
                int gone = Math.max(0, count - 30);
                for (int i = 0; i < Math.min(count, 30); i++) {
                    int index = i;
                    String what = " " + i + " of " + count + " by " + s + " switches";
                    due.is("21 time" + what, (gone + index) / s, () -> x.changeTime(index));
                    due.is("22 switch" + what, (gone + index) % s, () -> x.changeSwitch(index));
                }
            }
        }
    }

    private static void farBeyond() {
        TankPlant x = together(10);
        for (int i = 0; i < 400; i++) {
            x.run(5000);
        }
        due.is("20 twenty million", 20000000, () -> x.changeCount());
        due.is("21 the oldest of the latest", 1999997, () -> x.changeTime(0));
        due.is("22 the oldest of the latest", 0, () -> x.changeSwitch(0));
        due.is("21 the latest", 1999999, () -> x.changeTime(29));
        due.is("22 the latest", 9, () -> x.changeSwitch(29));
    }

    private static void noChangeNoEntry() {
        due.gives("20 a switch that stays is no change", 1, Plants::small, x -> {
            x.run(4);
            return x.changeCount();
        });
        due.gives("20 a switch that is added is none", 1, Plants::small, x -> {
            x.addSwitch(0, 60, 61);
            return x.changeCount();
        });
        due.gives("20 one that nextChange finds is none", 1, Plants::small, x -> {
            x.nextChange(5000);
            return x.changeCount();
        });
        due.gives("20 one that runUntil runs into is one", 2, Plants::small, x -> {
            x.runUntil(0, 70, true, 0);
            x.runUntil(0, 90, false, 10);
            return x.changeCount();
        });
    }

    /** "save stores the whole state: ... time, log." */
    private static void restoredLogs() {
        int[] counts = {0, 1, 29, 30, 31, 45};
        int[] laters = {0, 1, 2, 29, 30, 31, 60, 5000};
        for (int count : counts) {
            for (int later : laters) {
                due.leaves("24, 20 to 22 the log of " + count + ", and " + later + " more", () -> swung(count), x -> {
                    x.save();
                    x.run(later);
                    return x.restore();
                });
            }
        }
        TankPlant x = swung(28);
        x.save();
        x.run(10);
        x.restore();
        x.run(1);
        due.is("24, 20 goes on with the 29th", 29, () -> x.changeCount());
        due.is("24, 21 it is the latest", 28, () -> x.changeTime(28));
        due.isThrown("24, 21 nothing is behind it", Due.INDEX, () -> x.changeTime(29));
    }
}
