/** Promise 1, "a plant without tanks, switches, pumps and depots": each method of a new object. */
public final class EmptyEdgesTest {
    private static final Due due = new Due();

    public static void main(String[] args) {
        nothingIsThere();
        nothingIsThereToSet();
        aRunOfNothing();
        theFirstOfEachKind();
        eachObjectForItself();
        due.end();
    }

    private static void nothingIsThere() {
        due.gives("1, 11 \"The time is 0 at first\"", 0, Plants::empty, x -> x.time());
        due.gives("1, 19 balance", 0, Plants::empty, x -> x.balance());
        due.gives("1, 20 changeCount", 0, Plants::empty, x -> x.changeCount());
        due.gives("1, 25 digest", Sums.digestOf(0, 0, 0, 0, 0, 0), Plants::empty, x -> x.digest());
        due.numbers("1, 12 no level", 0, Plants::empty, (x, i) -> x.level(i));
        due.numbers("1, 13 no levelSum", 0, Plants::empty, (x, i) -> x.levelSum(i));
        due.numbers("1, 14 no meanLevel, though the time is 0", 0, Plants::empty, (x, i) -> x.meanLevel(i));
        due.numbers("1, 15 no isOn", 0, Plants::empty, (x, i) -> x.isOn(i));
        due.numbers("1, 16 no total", 0, Plants::empty, (x, i) -> x.total(i));
        due.numbers("1, 17 no energy", 0, Plants::empty, (x, i) -> x.energy(i));
        due.numbers("1, 18 no shortTicks", 0, Plants::empty, (x, i) -> x.shortTicks(i));
        due.numbers("1, 21 no changeTime", 0, Plants::empty, (x, i) -> x.changeTime(i));
        due.numbers("1, 22 no changeSwitch", 0, Plants::empty, (x, i) -> x.changeSwitch(i));
        due.refuses("1, 24 no depot", Due.STATE, Plants::empty, x -> x.restore());
    }

    private static void nothingIsThereToSet() {
        due.numbers("1, 3 no tank to watch", 0, Plants::empty, (x, i) -> x.addSwitch(i, 0, 1));
        due.numbers("1, 5 no tank", 0, Plants::empty, (x, i) -> x.setLevel(i, 0));
        due.numbers("1, 6 no tank", 0, Plants::empty, (x, i) -> x.setLeak(i, 0));
        due.numbers("1, 7 no pump", 0, Plants::empty, (x, i) -> x.setRate(i, 1));
        due.numbers("1, 9 no tank", 0, Plants::empty, (x, i) -> x.runUntil(i, 0, false, 0));
        due.refuses("1, 4 no tank to lead to", Due.INDEX, Plants::empty, x -> x.addPump(-1, 0, 1, 0, -1, false));
        due.refuses("1, 4 no tank to lead from", Due.INDEX, Plants::empty, x -> x.addPump(0, -1, 1, 0, -1, false));
        due.refuses("1, 4 only outside is there, at both ends", Due.ARGUMENT, Plants::empty,
                x -> x.addPump(-1, -1, 1, 0, -1, false));
        due.refuses("1, 4 no switch", Due.INDEX, Plants::empty, x -> x.addPump(-1, -1, 1, 0, 0, false));
    }

    private static void aRunOfNothing() {
        due.gives("1, 8 no change", 0, Plants::empty, x -> x.run(5000));
        due.gives("1, 11 but the time goes on", 5000, Plants::empty, x -> {
            x.run(5000);
            return x.time();
        });
        due.gives("1, 10 none comes", -1, Plants::empty, x -> x.nextChange(5000));
        due.gives("1, 25 digest behind it", Sums.digestOf(5000, 0, 0, 0, 0, 0), Plants::empty, x -> {
            x.run(5000);
            return x.digest();
        });
        due.gives("1, 23 an empty plant can be saved", 1, Plants::empty, x -> x.save());
        due.leaves("1, 24 and restored", Plants::empty, x -> {
            x.save();
            x.run(7);
            return x.restore();
        });
    }

    private static void theFirstOfEachKind() {
        TankPlant x = new TankPlant();
        due.is("1, 2 the first tank", 0, () -> x.addTank(1, 0, 0));
        due.is("1, 3 the first switch", 0, () -> x.addSwitch(0, 0, 1));
        due.is("1, 4 the first pump", 0, () -> x.addPump(-1, 0, 1, 0, -1, false));
        due.is("1, 23 the first depot", 1, () -> x.save());
    }

    private static void eachObjectForItself() {
        TankPlant used = Plants.full();
        due.gives("1 a new object has nothing of another", Shown.onwards(new TankPlant()), Plants::empty,
                x -> Shown.onwards(x));
        String before = Shown.by(used);
        Plants.full().run(10);
        due.is("1 nor does it change another", before, () -> Shown.by(used));
    }
}
