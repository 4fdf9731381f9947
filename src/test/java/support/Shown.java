/** All that the methods of a plant show of it without changing it. */
final class Shown {
    private static final int MOST_OF_A_KIND = 40;

    private interface Part {
        Object of(int index);
    }

    private Shown() {
    }

    static String by(TankPlant plant) {
        StringBuilder text = new StringBuilder();
        text.append("time ").append(plant.time());
        text.append(" balance ").append(plant.balance());
        text.append(" changes ").append(plant.changeCount());
        text.append(" next ").append(plant.nextChange(60));
        text.append(" digest ").append(plant.digest());
        list(text, " levels", plant::level);
        list(text, " sums", plant::levelSum);
        list(text, " means", plant::meanLevel);
        list(text, " on", plant::isOn);
        list(text, " totals", plant::total);
        list(text, " energies", plant::energy);
        list(text, " short", plant::shortTicks);
        list(text, " times", plant::changeTime);
        list(text, " switches", plant::changeSwitch);
        return text.toString();
    }

    private static void list(StringBuilder text, String name, Part part) {
        text.append(name);
        for (int i = 0; i < MOST_OF_A_KIND; i++) {
            try {
                text.append(' ').append(part.of(i));
            } catch (IndexOutOfBoundsException e) {
                return;
            }
        }
    }
}
