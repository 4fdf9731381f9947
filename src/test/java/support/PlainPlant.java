import java.util.ArrayDeque;
import java.util.ArrayList;
import java.util.Deque;
import java.util.List;

/**
 * The same plant in the plainest way, one tick after another, as the document's
 * Description tells it: slow, and what TankPlant is compared with.
 */
final class PlainPlant {
    private static final class Tank {
        int capacity, level, leak;
        long sum;
    }

    private static final class Switch {
        int tank, low, high;
        boolean on;
    }

    private static final class Pump {
        int from, to, rate, lift, control;
        boolean inverted;
        long total, energy, shortTicks;
    }

    private static final class Change {
        final long time;
        final int number;

        Change(long time, int number) {
            this.time = time;
            this.number = number;
        }
    }

    private static final class State {
        final List<Tank> tanks = new ArrayList<>();
        final List<Switch> switches = new ArrayList<>();
        final List<Pump> pumps = new ArrayList<>();
        final List<Change> log = new ArrayList<>();
        long time;
        long changes;

        State copy() {
            State s = new State();
            for (Tank t : tanks) {
                Tank c = new Tank();
                c.capacity = t.capacity;
                c.level = t.level;
                c.leak = t.leak;
                c.sum = t.sum;
                s.tanks.add(c);
            }
            for (Switch w : switches) {
                Switch c = new Switch();
                c.tank = w.tank;
                c.low = w.low;
                c.high = w.high;
                c.on = w.on;
                s.switches.add(c);
            }
            for (Pump p : pumps) {
                Pump c = new Pump();
                c.from = p.from;
                c.to = p.to;
                c.rate = p.rate;
                c.lift = p.lift;
                c.control = p.control;
                c.inverted = p.inverted;
                c.total = p.total;
                c.energy = p.energy;
                c.shortTicks = p.shortTicks;
                s.pumps.add(c);
            }
            s.log.addAll(log);
            s.time = time;
            s.changes = changes;
            return s;
        }

        int tick() {
            int changed = 0;
            for (int i = 0; i < switches.size(); i++) {
                Switch w = switches.get(i);
                int level = tanks.get(w.tank).level;
                boolean was = w.on;
                if (level <= w.low) {
                    w.on = true;
                } else if (level >= w.high) {
                    w.on = false;
                }
                if (was != w.on) {
                    changed++;
                    log.add(new Change(time, i));
                    if (log.size() > 30) {
                        log.remove(0);
                    }
                }
            }
            changes += changed;
            for (Pump p : pumps) {
                if (p.control >= 0 && switches.get(p.control).on == p.inverted) {
                    continue;
                }
                int amount = p.rate;
                if (p.from >= 0) {
                    amount = Math.min(amount, tanks.get(p.from).level);
                }
                if (p.to >= 0) {
                    amount = Math.min(amount, tanks.get(p.to).capacity - tanks.get(p.to).level);
                }
                if (p.from >= 0) {
                    tanks.get(p.from).level -= amount;
                }
                if (p.to >= 0) {
                    tanks.get(p.to).level += amount;
                }
                p.total += amount;
                p.energy += (long) amount * p.lift;
                if (amount < p.rate) {
                    p.shortTicks++;
                }
            }
            for (Tank t : tanks) {
                t.level -= Math.min(t.leak, t.level);
            }
            time++;
            for (Tank t : tanks) {
                t.sum += t.level;
            }
            return changed;
        }
    }

    private State now = new State();
    private final Deque<State> depots = new ArrayDeque<>();

    int addTank(int capacity, int level, int leak) {
        refuse(capacity < 1 || capacity > 1000000000);
        refuse(level < 0 || level > capacity);
        refuse(leak < 0 || leak > 1000000);
        refuseMore(now.tanks.size() == 8);
        Tank t = new Tank();
        t.capacity = capacity;
        t.level = level;
        t.leak = leak;
        now.tanks.add(t);
        return now.tanks.size() - 1;
    }

    int addSwitch(int tank, int low, int high) {
        Tank t = tank(tank);
        refuse(!(0 <= low && low < high && high <= t.capacity));
        refuseMore(now.switches.size() == 10);
        Switch w = new Switch();
        w.tank = tank;
        w.low = low;
        w.high = high;
        now.switches.add(w);
        return now.switches.size() - 1;
    }

    int addPump(int from, int to, int rate, int lift, int control, boolean isInverted) {
        if (from != -1) {
            tank(from);
        }
        if (to != -1) {
            tank(to);
        }
        if (control != -1) {
            switchOf(control);
        }
        refuse(from == to);
        refuse(rate < 1 || rate > 1000000);
        refuse(lift < 0 || lift > 100);
        refuseMore(now.pumps.size() == 16);
        Pump p = new Pump();
        p.from = from;
        p.to = to;
        p.rate = rate;
        p.lift = lift;
        p.control = control;
        p.inverted = isInverted;
        now.pumps.add(p);
        return now.pumps.size() - 1;
    }

    int setLevel(int tank, int level) {
        Tank t = tank(tank);
        refuse(level < 0 || level > t.capacity);
        int before = t.level;
        t.level = level;
        return before;
    }

    int setLeak(int tank, int leak) {
        Tank t = tank(tank);
        refuse(leak < 0 || leak > 1000000);
        int before = t.leak;
        t.leak = leak;
        return before;
    }

    int setRate(int pump, int rate) {
        Pump p = pump(pump);
        refuse(rate < 1 || rate > 1000000);
        int before = p.rate;
        p.rate = rate;
        return before;
    }

    int run(int ticks) {
        refuse(ticks < 0 || ticks > 5000);
        int changed = 0;
        for (int i = 0; i < ticks; i++) {
            changed += now.tick();
        }
        return changed;
    }

    int runUntil(int tank, int level, boolean isAtMost, int most) {
        Tank t = tank(tank);
        refuse(most < 0 || most > 5000);
        for (int i = 0; i <= most; i++) {
            if (isAtMost ? t.level <= level : t.level >= level) {
                return i;
            }
            if (i < most) {
                now.tick();
            }
        }
        return -1;
    }

    int nextChange(int most) {
        refuse(most < 1 || most > 5000);
        State ahead = now.copy();
        for (int i = 1; i <= most; i++) {
            if (ahead.tick() > 0) {
                return i;
            }
        }
        return -1;
    }

    long time() {
        return now.time;
    }

    int level(int tank) {
        return tank(tank).level;
    }

    long levelSum(int tank) {
        return tank(tank).sum;
    }

    double meanLevel(int tank) {
        Tank t = tank(tank);
        return now.time == 0 ? (double) t.level : (double) t.sum / (double) now.time;
    }

    boolean isOn(int number) {
        return switchOf(number).on;
    }

    long total(int pump) {
        return pump(pump).total;
    }

    long energy(int pump) {
        return pump(pump).energy;
    }

    long shortTicks(int pump) {
        return pump(pump).shortTicks;
    }

    long balance() {
        long sum = 0;
        for (Pump p : now.pumps) {
            if (p.from == -1) {
                sum += p.total;
            }
            if (p.to == -1) {
                sum -= p.total;
            }
        }
        return sum;
    }

    long changeCount() {
        return now.changes;
    }

    long changeTime(int index) {
        return change(index).time;
    }

    int changeSwitch(int index) {
        return change(index).number;
    }

    int save() {
        refuseMore(depots.size() == 4);
        depots.push(now.copy());
        return depots.size();
    }

    int restore() {
        refuseMore(depots.isEmpty());
        now = depots.pop();
        return depots.size();
    }

    long digest() {
        List<Long> xs = new ArrayList<>();
        xs.add(now.time);
        xs.add((long) now.tanks.size());
        xs.add((long) now.switches.size());
        xs.add((long) now.pumps.size());
        xs.add((long) depots.size());
        for (Tank t : now.tanks) {
            xs.add((long) t.level);
            xs.add((long) t.leak);
        }
        for (Switch w : now.switches) {
            xs.add(w.on ? 1L : 0L);
        }
        for (Pump p : now.pumps) {
            xs.add((long) p.rate);
            xs.add(p.total);
            xs.add(p.energy);
            xs.add(p.shortTicks);
        }
        xs.add(now.changes);
        long d = 67;
        for (long x : xs) {
            d = d * 31 + x;
        }
        return d;
    }

    private Tank tank(int number) {
        return part(now.tanks, number);
    }

    private Switch switchOf(int number) {
        return part(now.switches, number);
    }

    private Pump pump(int number) {
        return part(now.pumps, number);
    }

    private Change change(int index) {
        return part(now.log, index);
    }

    private static <T> T part(List<T> all, int index) {
        if (index < 0 || index >= all.size()) {
            throw new IndexOutOfBoundsException("no such part");
        }
        return all.get(index);
    }

    private static void refuse(boolean isWrong) {
        if (isWrong) {
            throw new IllegalArgumentException("wrong");
        }
    }

    private static void refuseMore(boolean isFull) {
        if (isFull) {
            throw new IllegalStateException("full or empty");
        }
    }
}
