/**
 * A plant of tanks, pumps and switches that is run tick by tick; ../shared/DOC.md
 * says what each method promises. This class checks what it is given and keeps the
 * depots; the Plant inside it does the work.
 */
public final class TankPlant {
    private static final int OUTSIDE = -1;
    private static final int NO_SWITCH = -1;

    private static final int MAX_TANKS = 8;
    private static final int MAX_SWITCHES = 10;
    private static final int MAX_PUMPS = 16;
    private static final int MAX_DEPOTS = 4;
    private static final int MAX_LOGGED = 30;

    private static final int MAX_CAPACITY = 1000000000;
    private static final int MAX_LEAK = 1000000;
    private static final int MAX_RATE = 1000000;
    private static final int MAX_LIFT = 100;
    private static final int MAX_TICKS = 5000;

    private static final long DIGEST_START = 67;

    private final Plant plant = new Plant();
    private final Plant trial = new Plant();
    private final Plant[] depots = new Plant[MAX_DEPOTS];
    private int depotCount;

    public TankPlant() {
        depotCount = 0;
    }

    public int addTank(int capacity, int level, int leak)
            throws IllegalArgumentException, IllegalStateException {
        if (!isWithin(capacity, 1, MAX_CAPACITY)) {
            throw new IllegalArgumentException("capacity is not 1 to 1000000000");
        }
        needAmount(level, capacity);
        needLeak(leak);
        if (plant.tanks.count >= MAX_TANKS) {
            throw new IllegalStateException("there are 8 tanks");
        }
        return plant.tanks.append(capacity, level, leak);
    }

    public int addSwitch(int tank, int low, int high)
            throws IndexOutOfBoundsException, IllegalArgumentException, IllegalStateException {
        needTank(tank);
        if (low < 0 || low >= high || high > plant.tanks.capacity[tank]) {
            throw new IllegalArgumentException("not 0 <= low < high <= capacity");
        }
        if (plant.switches.count >= MAX_SWITCHES) {
            throw new IllegalStateException("there are 10 switches");
        }
        return plant.switches.append(tank, low, high);
    }

    public int addPump(int from, int to, int rate, int lift, int control, boolean isInverted)
            throws IndexOutOfBoundsException, IllegalArgumentException, IllegalStateException {
        needTankOrOutside(from);
        needTankOrOutside(to);
        if (control != NO_SWITCH) {
            needSwitch(control);
        }
        if (from == to) {
            throw new IllegalArgumentException("from and to are the same");
        }
        needRate(rate);
        if (!isWithin(lift, 0, MAX_LIFT)) {
            throw new IllegalArgumentException("lift is not 0 to 100");
        }
        if (plant.pumps.count >= MAX_PUMPS) {
            throw new IllegalStateException("there are 16 pumps");
        }
        return plant.pumps.append(from, to, rate, lift, control, isInverted);
    }

    public int setLevel(int tank, int level) throws IndexOutOfBoundsException, IllegalArgumentException {
        needTank(tank);
        needAmount(level, plant.tanks.capacity[tank]);
        int before = plant.tanks.level[tank];
        plant.tanks.level[tank] = level;
        return before;
    }

    public int setLeak(int tank, int leak) throws IndexOutOfBoundsException, IllegalArgumentException {
        needTank(tank);
        needLeak(leak);
        int before = plant.tanks.leak[tank];
        plant.tanks.leak[tank] = leak;
        return before;
    }

    public int setRate(int pump, int rate) throws IndexOutOfBoundsException, IllegalArgumentException {
        needPump(pump);
        needRate(rate);
        int before = plant.pumps.rate[pump];
        plant.pumps.rate[pump] = rate;
        return before;
    }

    public int run(int ticks) throws IllegalArgumentException {
        needTicks(ticks, 0);
        return plant.advance(ticks);
    }

    public int runUntil(int tank, int level, boolean isAtMost, int most)
            throws IndexOutOfBoundsException, IllegalArgumentException {
        needTank(tank);
        needTicks(most, 0);
        return plant.advanceUntil(tank, level, isAtMost, most);
    }

    public int nextChange(int most) throws IllegalArgumentException {
        needTicks(most, 1);
        trial.copyFrom(plant);
        return trial.advanceToChange(most);
    }

    public long time() {
        return plant.time;
    }

    public int level(int tank) throws IndexOutOfBoundsException {
        needTank(tank);
        return plant.tanks.level[tank];
    }

    public long levelSum(int tank) throws IndexOutOfBoundsException {
        needTank(tank);
        return plant.tanks.levelSum[tank];
    }

    public double meanLevel(int tank) throws IndexOutOfBoundsException {
        needTank(tank);
        if (plant.time <= 0) {
            return (double) plant.tanks.level[tank];
        }
        return (double) plant.tanks.levelSum[tank] / (double) plant.time;
    }

    public boolean isOn(int number) throws IndexOutOfBoundsException {
        needSwitch(number);
        return plant.switches.on[number];
    }

    public long total(int pump) throws IndexOutOfBoundsException {
        needPump(pump);
        return plant.pumps.total[pump];
    }

    public long energy(int pump) throws IndexOutOfBoundsException {
        needPump(pump);
        return plant.pumps.energy[pump];
    }

    public long shortTicks(int pump) throws IndexOutOfBoundsException {
        needPump(pump);
        return plant.pumps.shortTicks[pump];
    }

    public long balance() {
        return plant.pumps.cameIn() - plant.pumps.wentOut();
    }

    public long changeCount() {
        return plant.log.count;
    }

    public long changeTime(int index) throws IndexOutOfBoundsException {
        needLogged(index);
        return plant.log.times[plant.log.slotOf(index)];
    }

    public int changeSwitch(int index) throws IndexOutOfBoundsException {
        needLogged(index);
        return plant.log.numbers[plant.log.slotOf(index)];
    }

    public int save() throws IllegalStateException {
        if (depotCount >= MAX_DEPOTS) {
            throw new IllegalStateException("there are 4 depots");
        }
        Plant depot = depots[depotCount];
        if (depot == null) {
            depot = new Plant();
            depots[depotCount] = depot;
        }
        depot.copyFrom(plant);
        depotCount++;
        return depotCount;
    }

    public int restore() throws IllegalStateException {
        Plant depot = depotCount > 0 ? depots[depotCount - 1] : null;
        if (depot == null) {
            throw new IllegalStateException("there is no depot");
        }
        plant.copyFrom(depot);
        depotCount--;
        return depotCount;
    }

    public long digest() {
        long d = mix(DIGEST_START, plant.time);
        d = mix(d, plant.tanks.count);
        d = mix(d, plant.switches.count);
        d = mix(d, plant.pumps.count);
        d = mix(d, depotCount);
        d = plant.tanks.mixedInto(d);
        d = plant.switches.mixedInto(d);
        d = plant.pumps.mixedInto(d);
        return mix(d, plant.log.count);
    }

    private void needTank(int tank) {
        if (!isWithin(tank, 0, plant.tanks.count - 1)) {
            throw new IndexOutOfBoundsException("there is no such tank");
        }
    }

    private void needTankOrOutside(int end) {
        if (end != OUTSIDE) {
            needTank(end);
        }
    }

    private void needSwitch(int number) {
        if (!isWithin(number, 0, plant.switches.count - 1)) {
            throw new IndexOutOfBoundsException("there is no such switch");
        }
    }

    private void needPump(int pump) {
        if (!isWithin(pump, 0, plant.pumps.count - 1)) {
            throw new IndexOutOfBoundsException("there is no such pump");
        }
    }

    private void needLogged(int index) {
        if (!isWithin(index, 0, plant.log.kept() - 1)) {
            throw new IndexOutOfBoundsException("there is no such index in the log");
        }
    }

    private static void needAmount(int level, int capacity) {
        if (!isWithin(level, 0, capacity)) {
            throw new IllegalArgumentException("level is not 0 to the capacity");
        }
    }

    private static void needLeak(int leak) {
        if (!isWithin(leak, 0, MAX_LEAK)) {
            throw new IllegalArgumentException("leak is not 0 to 1000000");
        }
    }

    private static void needRate(int rate) {
        if (!isWithin(rate, 1, MAX_RATE)) {
            throw new IllegalArgumentException("rate is not 1 to 1000000");
        }
    }

    private static void needTicks(int ticks, int least) {
        if (!isWithin(ticks, least, MAX_TICKS)) {
            throw new IllegalArgumentException("the number of ticks is out of its range");
        }
    }

    private static boolean isWithin(int x, int least, int greatest) {
        return x >= least && x <= greatest;
    }

    private static long mix(long d, long x) {
        return d * 31 + x;
    }

    /**
     * For how many further ticks a margin that now is spare, and grows by slope in
     * each tick, stays at 0 or above: at most limit.
     */
    private static int ticksWhile(long spare, long slope, int limit) {
        if (spare < 0) {
            return 0;
        }
        if (slope >= 0) {
            return limit;
        }
        return (int) Math.min(limit, spare / -slope);
    }

    /** The tanks, a place in each row for each. */
    private static final class Tanks {
        int count;
        final int[] capacity = new int[MAX_TANKS];
        final int[] level = new int[MAX_TANKS];
        final int[] leak = new int[MAX_TANKS];
        final long[] levelSum = new long[MAX_TANKS];
        /** The levels when the last tick began; used within one call alone, so never copied. */
        final int[] before = new int[MAX_TANKS];

        int append(int newCapacity, int newLevel, int newLeak) {
            int tank = count;
            capacity[tank] = newCapacity;
            level[tank] = newLevel;
            leak[tank] = newLeak;
            levelSum[tank] = 0;
            count++;
            return tank;
        }

        void copyFrom(Tanks other) {
            count = other.count;
            System.arraycopy(other.capacity, 0, capacity, 0, MAX_TANKS);
            System.arraycopy(other.level, 0, level, 0, MAX_TANKS);
            System.arraycopy(other.leak, 0, leak, 0, MAX_TANKS);
            System.arraycopy(other.levelSum, 0, levelSum, 0, MAX_TANKS);
        }

        void noteLevels() {
            System.arraycopy(level, 0, before, 0, MAX_TANKS);
        }

        void leakAndSum() {
            for (int i = 0; i < count; i++) {
                level[i] -= Math.min(leak[i], level[i]);
                levelSum[i] += level[i];
            }
        }

        int drift(int tank) {
            return level[tank] - before[tank];
        }

        boolean hasReached(int tank, int mark, boolean isAtMost) {
            return isAtMost ? level[tank] <= mark : level[tank] >= mark;
        }

        /** For how many ticks like the last one a tank does not reach a mark. */
        int ticksShortOf(int tank, int mark, boolean isAtMost, int limit) {
            long lacking = isAtMost ? (long) level[tank] - mark : (long) mark - level[tank];
            long slope = isAtMost ? drift(tank) : -drift(tank);
            return ticksWhile(lacking - 1, slope, limit);
        }

        /**
         * For how many ticks the leaks stay as in the last one. A leak that found too
         * little has left 0, so there too the level with its drift is the margin.
         */
        int steadyTicks(int limit) {
            int steady = limit;
            for (int i = 0; i < count && steady > 0; i++) {
                steady = ticksWhile(level[i], drift(i), steady);
            }
            return steady;
        }

        void repeat(int ticks) {
            long steps = (long) ticks * (ticks + 1) / 2;
            for (int i = 0; i < count; i++) {
                int drift = drift(i);
                levelSum[i] += (long) level[i] * ticks + drift * steps;
                level[i] += drift * ticks;
            }
        }

        long mixedInto(long start) {
            long d = start;
            for (int i = 0; i < count; i++) {
                d = mix(mix(d, level[i]), leak[i]);
            }
            return d;
        }
    }

    /** The switches, a place in each row for each. */
    private static final class Switches {
        int count;
        final int[] tank = new int[MAX_SWITCHES];
        final int[] low = new int[MAX_SWITCHES];
        final int[] high = new int[MAX_SWITCHES];
        final boolean[] on = new boolean[MAX_SWITCHES];

        int append(int newTank, int newLow, int newHigh) {
            int number = count;
            tank[number] = newTank;
            low[number] = newLow;
            high[number] = newHigh;
            on[number] = false;
            count++;
            return number;
        }

        void copyFrom(Switches other) {
            count = other.count;
            System.arraycopy(other.tank, 0, tank, 0, MAX_SWITCHES);
            System.arraycopy(other.low, 0, low, 0, MAX_SWITCHES);
            System.arraycopy(other.high, 0, high, 0, MAX_SWITCHES);
            System.arraycopy(other.on, 0, on, 0, MAX_SWITCHES);
        }

        /** Sets each switch by the level of its tank, and tells how many changed. */
        int follow(Tanks tanks, ChangeLog log, long now) {
            int changes = 0;
            for (int i = 0; i < count; i++) {
                int level = tanks.level[tank[i]];
                boolean isDue = on[i] ? level < high[i] : level <= low[i];
                if (isDue != on[i]) {
                    on[i] = isDue;
                    log.note(now, i);
                    changes++;
                }
            }
            return changes;
        }

        /** For how many ticks like the last one no switch changes. */
        int steadyTicks(Tanks tanks, int limit) {
            int steady = limit;
            for (int i = 0; i < count && steady > 0; i++) {
                int level = tanks.before[tank[i]];
                int drift = tanks.drift(tank[i]);
                steady = on[i]
                        ? ticksWhile(high[i] - 1 - level, -drift, steady)
                        : ticksWhile(level - low[i] - 1, drift, steady);
            }
            return steady;
        }

        long mixedInto(long start) {
            long d = start;
            for (int i = 0; i < count; i++) {
                d = mix(d, on[i] ? 1 : 0);
            }
            return d;
        }
    }

    /** The pumps, a place in each row for each. */
    private static final class Pumps {
        int count;
        final int[] from = new int[MAX_PUMPS];
        final int[] to = new int[MAX_PUMPS];
        final int[] rate = new int[MAX_PUMPS];
        final int[] lift = new int[MAX_PUMPS];
        final int[] control = new int[MAX_PUMPS];
        final boolean[] inverted = new boolean[MAX_PUMPS];
        final long[] total = new long[MAX_PUMPS];
        final long[] energy = new long[MAX_PUMPS];
        final long[] shortTicks = new long[MAX_PUMPS];
        /**
         * What each active pump moved in the last tick, and what it left at its two ends;
         * used within one call alone, so never copied.
         */
        final int[] amount = new int[MAX_PUMPS];
        final int[] sourceLeft = new int[MAX_PUMPS];
        final int[] roomLeft = new int[MAX_PUMPS];

        int append(int newFrom, int newTo, int newRate, int newLift, int newControl, boolean newInverted) {
            int pump = count;
            from[pump] = newFrom;
            to[pump] = newTo;
            rate[pump] = newRate;
            lift[pump] = newLift;
            control[pump] = newControl;
            inverted[pump] = newInverted;
            total[pump] = 0;
            energy[pump] = 0;
            shortTicks[pump] = 0;
            count++;
            return pump;
        }

        void copyFrom(Pumps other) {
            count = other.count;
            System.arraycopy(other.from, 0, from, 0, MAX_PUMPS);
            System.arraycopy(other.to, 0, to, 0, MAX_PUMPS);
            System.arraycopy(other.rate, 0, rate, 0, MAX_PUMPS);
            System.arraycopy(other.lift, 0, lift, 0, MAX_PUMPS);
            System.arraycopy(other.control, 0, control, 0, MAX_PUMPS);
            System.arraycopy(other.inverted, 0, inverted, 0, MAX_PUMPS);
            System.arraycopy(other.total, 0, total, 0, MAX_PUMPS);
            System.arraycopy(other.energy, 0, energy, 0, MAX_PUMPS);
            System.arraycopy(other.shortTicks, 0, shortTicks, 0, MAX_PUMPS);
        }

        boolean isActive(int pump, Switches switches) {
            int number = control[pump];
            return number == NO_SWITCH || switches.on[number] != inverted[pump];
        }

        void moveAll(Tanks tanks, Switches switches) {
            for (int i = 0; i < count; i++) {
                if (isActive(i, switches)) {
                    move(i, tanks);
                    enter(i, 1);
                }
            }
        }

        private void move(int pump, Tanks tanks) {
            int source = from[pump];
            int target = to[pump];
            int moved = rate[pump];
            if (source != OUTSIDE) {
                moved = Math.min(moved, tanks.level[source]);
            }
            if (target != OUTSIDE) {
                moved = Math.min(moved, tanks.capacity[target] - tanks.level[target]);
            }
            if (source != OUTSIDE) {
                tanks.level[source] -= moved;
                sourceLeft[pump] = tanks.level[source];
            }
            if (target != OUTSIDE) {
                tanks.level[target] += moved;
                roomLeft[pump] = tanks.capacity[target] - tanks.level[target];
            }
            amount[pump] = moved;
        }

        /** Enters the last amount in the ledgers of a pump, for a number of ticks. */
        private void enter(int pump, int ticks) {
            long moved = (long) amount[pump] * ticks;
            total[pump] += moved;
            energy[pump] += moved * lift[pump];
            if (amount[pump] < rate[pump]) {
                shortTicks[pump] += ticks;
            }
        }

        /** For how many ticks the active pumps move what they moved in the last one. */
        int steadyTicks(Tanks tanks, Switches switches, int limit) {
            int steady = limit;
            for (int i = 0; i < count && steady > 0; i++) {
                if (isActive(i, switches)) {
                    steady = steadyTicksOf(i, tanks, steady);
                }
            }
            return steady;
        }

        /**
         * The amount stays while both ends still allow it and, if it is less than the
         * rate, while one end that allows just this much does not drift.
         */
        private int steadyTicksOf(int pump, Tanks tanks, int limit) {
            int steady = limit;
            boolean isHeld = amount[pump] == rate[pump];
            if (from[pump] != OUTSIDE) {
                int drift = tanks.drift(from[pump]);
                steady = ticksWhile(sourceLeft[pump], drift, steady);
                isHeld = isHeld || sourceLeft[pump] == 0 && drift == 0;
            }
            if (to[pump] != OUTSIDE) {
                int drift = tanks.drift(to[pump]);
                steady = ticksWhile(roomLeft[pump], -drift, steady);
                isHeld = isHeld || roomLeft[pump] == 0 && drift == 0;
            }
            return isHeld ? steady : 0;
        }

        void repeat(Switches switches, int ticks) {
            for (int i = 0; i < count; i++) {
                if (isActive(i, switches)) {
                    enter(i, ticks);
                }
            }
        }

        long cameIn() {
            long sum = 0;
            for (int i = 0; i < count; i++) {
                sum += from[i] == OUTSIDE ? total[i] : 0;
            }
            return sum;
        }

        long wentOut() {
            long sum = 0;
            for (int i = 0; i < count; i++) {
                sum += to[i] == OUTSIDE ? total[i] : 0;
            }
            return sum;
        }

        long mixedInto(long start) {
            long d = start;
            for (int i = 0; i < count; i++) {
                d = mix(mix(d, rate[i]), total[i]);
                d = mix(mix(d, energy[i]), shortTicks[i]);
            }
            return d;
        }
    }

    /** The latest changes, in rows whose places are used again in turn. */
    private static final class ChangeLog {
        long count;
        final long[] times = new long[MAX_LOGGED];
        final int[] numbers = new int[MAX_LOGGED];

        void note(long now, int number) {
            int slot = (int) (count % MAX_LOGGED);
            times[slot] = now;
            numbers[slot] = number;
            count++;
        }

        int kept() {
            return (int) Math.min(count, MAX_LOGGED);
        }

        /** The place of the change with this index, 0 to kept() - 1, the oldest first. */
        int slotOf(int index) {
            return (int) ((count - kept() + index) % MAX_LOGGED);
        }

        void copyFrom(ChangeLog other) {
            count = other.count;
            System.arraycopy(other.times, 0, times, 0, MAX_LOGGED);
            System.arraycopy(other.numbers, 0, numbers, 0, MAX_LOGGED);
        }
    }

    /**
     * The whole state but for the depots, and the ticks. Behind each tick it looks for
     * how many more ticks everything goes on alike, and makes these in one step: that
     * is what keeps long runs cheap.
     */
    private static final class Plant {
        final Tanks tanks = new Tanks();
        final Switches switches = new Switches();
        final Pumps pumps = new Pumps();
        final ChangeLog log = new ChangeLog();
        long time;

        void copyFrom(Plant other) {
            tanks.copyFrom(other.tanks);
            switches.copyFrom(other.switches);
            pumps.copyFrom(other.pumps);
            log.copyFrom(other.log);
            time = other.time;
        }

        /** Makes a number of ticks, and tells how many changes there were. */
        int advance(int ticks) {
            int changes = 0;
            for (int done = 0; done < ticks; done++) {
                changes += tick();
                done += repeatLast(ticks - done - 1);
            }
            return changes;
        }

        /** Makes ticks until a level is reached; tells how many, or -1 if it is not reached. */
        int advanceUntil(int tank, int mark, boolean isAtMost, int most) {
            if (tanks.hasReached(tank, mark, isAtMost)) {
                return 0;
            }
            for (int done = 1; done <= most; done++) {
                tick();
                if (tanks.hasReached(tank, mark, isAtMost)) {
                    return done;
                }
                done += repeatLast(tanks.ticksShortOf(tank, mark, isAtMost, most - done));
            }
            return -1;
        }

        /** Makes ticks until one has a change; tells its number, or -1 if none has. */
        int advanceToChange(int most) {
            for (int done = 1; done <= most; done++) {
                if (tick() > 0) {
                    return done;
                }
                done += repeatLast(most - done);
            }
            return -1;
        }

        /** Makes one tick, and tells how many changes it had. */
        private int tick() {
            tanks.noteLevels();
            int changes = switches.follow(tanks, log, time);
            pumps.moveAll(tanks, switches);
            tanks.leakAndSum();
            time++;
            return changes;
        }

        /** Makes as many further ticks as are like the last one, at most limit; tells how many. */
        private int repeatLast(int limit) {
            int steady = switches.steadyTicks(tanks, limit);
            steady = pumps.steadyTicks(tanks, switches, steady);
            steady = tanks.steadyTicks(steady);
            if (steady <= 0) {
                return 0;
            }
            pumps.repeat(switches, steady);
            tanks.repeat(steady);
            time += steady;
            return steady;
        }
    }
}
