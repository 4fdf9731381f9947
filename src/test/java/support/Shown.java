/** All that the methods of a plant show of it. */
final class Shown {
    private static final int MOST_OF_A_KIND = 40;
    private static final int MOST_DEPOTS = 4;

    private interface Part {
        Object of(int index);
    }

    private Shown() {
    }

    /** What it shows without being changed: at most some 170 calls. */
    static String by(TankPlant plant) {
        StringBuilder text = new StringBuilder();
        text.append("next ").append(plant.nextChange(60));
        text.append(" time ").append(plant.time());
        text.append(" balance ").append(plant.balance());
        text.append(" changes ").append(plant.changeCount());
        text.append(" digest ").append(plant.digest());
        list(text, " levels", plant::level);
        list(text, " sums", plant::levelSum);
        list(text, " means", plant::meanLevel);
        list(text, " on", plant::isOn);
        list(text, " totals", plant::total);
        list(text, " energies", plant::energy);
        list(text, " short", plant::shortTicks);
        list(text, " times", plant::changeTime);
        list(text, " switches", plant::changeSwitch);
        return text.toString();
    }

    /**
     * What it shows, and how it goes on: some ticks, some by single steps of each level, the
     * numbers of the next parts, and its depots. At most some 310 calls, and the plant is used up
     * behind them.
     */
    static String onwards(TankPlant plant) {
        StringBuilder text = new StringBuilder(by(plant));
        text.append("; ticks");
        attempt(text, () -> plant.run(9));
        briefly(text, plant);
        bySingleSteps(text, plant);
        text.append("; next parts");
        attempt(text, () -> plant.addTank(9, 5, 1));
        attempt(text, () -> plant.addSwitch(0, 0, 1));
        attempt(text, () -> plant.addPump(-1, 0, 1000000, 1, -1, false));
        attempt(text, () -> plant.addPump(-1, 1, 1000000, 1, -1, false));
        attempt(text, () -> plant.run(200));
        briefly(text, plant);
        for (int i = 0; i <= MOST_DEPOTS; i++) {
            attempt(text, () -> plant.restore());
            briefly(text, plant);
        }
        return text.toString();
    }

    /** Down and then up by 1 in each tick, so that no mark is stepped over. */
    private static void bySingleSteps(StringBuilder text, TankPlant plant) {
        list(text, "; rates", i -> plant.setRate(i, 1));
        for (int leak = 1; leak >= 0; leak--) {
            int next = leak;
            list(text, "; leaks", i -> plant.setLeak(i, next));
            attempt(text, () -> plant.run(200));
            attempt(text, () -> plant.digest());
        }
    }

    private static void briefly(StringBuilder text, TankPlant plant) {
        text.append("; digest ").append(plant.digest());
        text.append(" balance ").append(plant.balance());
        text.append(" changes ").append(plant.changeCount());
        list(text, " sums", plant::levelSum);
        attempt(text, () -> plant.changeTime(0));
        attempt(text, () -> plant.changeSwitch(0));
    }

    private static void attempt(StringBuilder text, Due.Call call) {
        try {
            text.append(' ').append(call.answer());
        } catch (RuntimeException e) {
            text.append(' ').append(e.getClass().getSimpleName());
        }
    }

    private static void list(StringBuilder text, String name, Part part) {
        text.append(name);
        for (int i = 0; i < MOST_OF_A_KIND; i++) {
            try {
                text.append(' ').append(part.of(i));
            } catch (IndexOutOfBoundsException e) {
                return;
            }
        }
    }
}
