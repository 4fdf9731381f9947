/** A tank that is filled when it gets low: each line prints what stands behind it. */
public final class Example {
    public static void main(String[] args) {
        TankPlant plant = new TankPlant();
        int tank = plant.addTank(100, 50, 0);                  // capacity, level, leak
        int low = plant.addSwitch(tank, 20, 80);               // on at 20 or less, off at 80 or more
        int in = plant.addPump(-1, tank, 10, 2, low, false);   // from outside, while the switch is on
        int out = plant.addPump(tank, -1, 3, 0, -1, false);    // to outside, always

        System.out.println(plant.nextChange(100));             // 11: the tick that turns the switch on
        System.out.println(plant.run(10));                     // 0: no change in ten ticks
        System.out.println(plant.level(tank));                 // 20
        System.out.println(plant.meanLevel(tank));             // 33.5
        System.out.println(plant.run(21));                     // 2: on, and off again
        System.out.println(plant.level(tank));                 // 47
        System.out.println(plant.isOn(low));                   // false
        System.out.println(plant.changeTime(1));               // 19: the time of the second change

        System.out.println(plant.energy(in));                  // 180: the amount of 90, times the lift of 2
        System.out.println(plant.total(out));                  // 93
        System.out.println(plant.balance());                   // -3: what came less what went

        System.out.println(plant.save());                      // 1: the number of depots
        System.out.println(plant.runUntil(tank, 20, true, 5000)); // 9: the ticks down to 20
        System.out.println(plant.restore());                   // 0: the number of depots
        System.out.println(plant.time());                      // 31: as it was saved

        try {
            plant.setLevel(tank, 101);
        } catch (IllegalArgumentException e) {
            System.out.println("refused");                     // refused: the capacity is 100
        }
        System.out.println(plant.level(tank));                 // 47: as before
    }
}
