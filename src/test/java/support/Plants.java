/** Plants that several tests begin with, each made by fewer than 100 calls. */
final class Plants {
    private Plants() {
    }

    static TankPlant empty() {
        return new TankPlant();
    }

    /** 2 tanks, of 100 and of 10, a switch, a pump and a depot; the switch has changed. */
    static TankPlant small() {
        TankPlant x = new TankPlant();
        x.addTank(100, 50, 1);
        x.addTank(10, 10, 0);
        x.addSwitch(0, 20, 80);
        x.addPump(-1, 0, 7, 2, 0, false);
        x.run(33);
        x.save();
        x.run(2);
        return x;
    }

    /** 8 tanks of 10 to 80, and 10 switches, as many as may be; no pump. */
    static TankPlant wide() {
        TankPlant x = new TankPlant();
        for (int i = 0; i < 8; i++) {
            x.addTank(10 * (i + 1), 5 * (i + 1), 0);
        }
        for (int i = 0; i < 10; i++) {
            x.addSwitch(i % 8, 2, 9);
        }
        return x;
    }

    /** 8 tanks, 10 switches, 16 pumps and 4 depots, as many as may be; the log is full, and goes on. */
    static TankPlant full() {
        TankPlant x = new TankPlant();
        for (int i = 0; i < 8; i++) {
            x.addTank(20 + i, 3 * i, i % 3);
        }
        for (int i = 0; i < 10; i++) {
            x.addSwitch(i % 8, 2 + i % 4, 12 + i % 5);
        }
        for (int i = 0; i < 8; i++) {
            x.addPump(-1, i, 3 + i, 6 * i, i, false);
            x.addPump(i, i % 2 == 0 ? i + 1 : -1, 2 + i, 5 * i, i, true);
        }
        x.run(30);
        x.save();
        x.run(7);
        x.save();
        x.run(1);
        x.save();
        x.save();
        x.run(40);
        return x;
    }

    /** A tank that is filled in one tick and emptied in the next, so that each tick has a change. */
    static TankPlant swinging() {
        TankPlant x = new TankPlant();
        x.addTank(20, 0, 0);
        x.addSwitch(0, 0, 20);
        x.addPump(-1, 0, 20, 1, 0, false);
        x.addPump(0, -1, 20, 1, 0, true);
        return x;
    }
}
