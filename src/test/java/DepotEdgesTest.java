/** The edges of promises 23 and 24: no depot, four of them, and all that a depot stores. */
public final class DepotEdgesTest {
    private static final Due due = new Due();

    public static void main(String[] args) {
        atMostFour();
        noDepot();
        eachPartOfTheState();
        addedPartsVanish();
        fromNothingToAllAndBack();
        vanishedPartsLeaveNothing();
        latestThatIsNotUndone();
        depotsStayAsTheyAre();
        savedParts();
        ratesOfADepotAreItsOwn();
        due.end();
    }

    /** "There are at most 4 depots." and "the number of depots afterwards" */
    private static void atMostFour() {
        Due.Maker[] makers = {Plants::empty, Plants::swinging, Plants::wide};
        for (Due.Maker maker : makers) {
            TankPlant x = maker.made();
            for (int i = 1; i <= 4; i++) {
                int number = i;
                due.is("23 depot " + number, number, () -> x.save());
            }
            for (int i = 3; i >= 0; i--) {
                int number = i;
                due.is("24 left " + number, number, () -> x.restore());
            }
            due.refuses("23 a fifth", Due.STATE, () -> saved(maker.made(), 4), y -> y.save());
        }
        due.refuses("23 a fifth of a full plant", Due.STATE, Plants::full, x -> x.save());
        TankPlant x = saved(Plants.swinging(), 4);
        due.is("24 one is free again", 3, () -> x.restore());
        due.is("23 it is taken", 4, () -> x.save());
        due.isThrown("23 and no more", Due.STATE, () -> x.save());
        due.is("24 the refused one is not there", 3, () -> x.restore());
    }

    private static TankPlant saved(TankPlant x, int times) {
        for (int i = 0; i < times; i++) {
            x.save();
            x.run(3);
        }
        return x;
    }

    /** "if there is no depot" */
    private static void noDepot() {
        due.refuses("24 never saved", Due.STATE, Plants::empty, x -> x.restore());
        due.refuses("24 never saved", Due.STATE, Plants::swinging, x -> x.restore());
        due.refuses("24 never saved, behind some ticks", Due.STATE, () -> {
            TankPlant x = Plants.swinging();
            x.run(33);
            return x;
        }, x -> x.restore());
        due.refuses("24 one undone, and ticks behind it", Due.STATE, () -> {
            TankPlant x = Plants.small();
            x.restore();
            x.run(9);
            return x;
        }, x -> x.restore());
        for (int i = 1; i <= 4; i++) {
            int depots = i;
            due.refuses("24 all " + depots + " undone", Due.STATE, () -> {
                TankPlant x = saved(Plants.swinging(), depots);
                for (int k = 0; k < depots; k++) {
                    x.restore();
                }
                return x;
            }, x -> x.restore());
        }
    }

    /** "save stores the whole state: levels, leaks, rates, switches, ledgers, sums, time, log." */
    private static void eachPartOfTheState() {
        restores("a level", x -> x.setLevel(0, 51));
        restores("the level of the last tank", x -> x.setLevel(1, 0));
        restores("a leak", x -> x.setLeak(0, 2));
        restores("the leak of the last tank", x -> x.setLeak(1, 1));
        restores("a rate", x -> x.setRate(0, 8));
        restores("time, sums and ledgers", x -> x.run(1));
        restores("a switch and the log", x -> {
            x.setLevel(0, 80);
            return x.run(1);
        });
        restores("all of it", x -> {
            x.setLeak(1, 3);
            x.setRate(0, 20);
            return x.run(5000);
        });
        restores("what runUntil runs", x -> x.runUntil(0, 90, false, 5000));
        restores("a tank", x -> x.addTank(7, 7, 7));
        restores("a switch", x -> x.addSwitch(1, 0, 10));
        restores("a pump", x -> x.addPump(1, 0, 1, 1, 0, true));
        restores("a depot", x -> {
            x.run(4);
            x.save();
            x.run(4);
            return x.restore();
        });
    }

    private static void restores(String what, Due.CallOf change) {
        Due.Maker[] makers = {Plants::small, () -> spare(Plants.small(), 3)};
        for (Due.Maker maker : makers) {
            TankPlant x = maker.made();
            String before = Shown.by(x);
            x.save();
            change.answer(x);
            due.holds("24 there is something to bring back: " + what, !before.equals(Shown.by(x)));
            due.leaves("24 brings back " + what, maker, y -> {
                y.save();
                change.answer(y);
                return y.restore();
            });
        }
    }

    /** The same plant, with depots that have been used before. */
    private static TankPlant spare(TankPlant x, int depots) {
        for (int i = 0; i < depots; i++) {
            x.save();
            x.addTank(5, 5, 5);
            x.addSwitch(1, 1, 2);
            x.addPump(0, 1, 5, 5, -1, false);
        }
        for (int i = 0; i < depots; i++) {
            x.restore();
        }
        return x;
    }

    /** "tanks, switches and pumps that were added since then vanish" */
    private static void addedPartsVanish() {
        Due.Maker maker = () -> {
            TankPlant x = Plants.small();
            x.save();
            x.addTank(9, 9, 0);
            x.addSwitch(2, 0, 9);
            x.addPump(2, -1, 1, 1, 1, true);
            x.run(3);
            x.restore();
            return x;
        };
        due.numbers("24, 12 tank", 2, maker, (x, i) -> x.level(i));
        due.numbers("24, 15 switch", 1, maker, (x, i) -> x.isOn(i));
        due.numbers("24, 16 pump", 1, maker, (x, i) -> x.total(i));
        due.gives("24, 2 the next tank takes its number", 2, maker, x -> x.addTank(1, 1, 1));
        due.gives("24, 3 the next switch takes its number", 1, maker, x -> x.addSwitch(0, 0, 1));
        due.gives("24, 4 the next pump takes its number", 1, maker, x -> x.addPump(0, 1, 1, 1, 0, false));
        due.gives("24, 19 what it moved is forgotten", 35, maker, x -> x.balance());
        due.refuses("24, 3 no switch of a tank that has vanished", Due.INDEX, maker, x -> x.addSwitch(2, 0, 1));
        due.refuses("24, 4 no pump to it", Due.INDEX, maker, x -> x.addPump(0, 2, 1, 1, 0, false));
        due.refuses("24, 4 no pump by a switch that has vanished", Due.INDEX, maker, x -> x.addPump(0, 1, 1, 1, 1, false));
        due.refuses("24, 7 no rate of a pump that has vanished", Due.INDEX, maker, x -> x.setRate(1, 1));
    }

    private static void fromNothingToAllAndBack() {
        TankPlant x = new TankPlant();
        x.save();
        for (int round = 0; round < 3; round++) {
            fillUp(x, round);
            x.run(20 + round);
            int r = round;
            due.is("24 back to nothing, round " + round, 0, () -> x.restore());
            due.is("24, 25 nothing is left, round " + round, Sums.digestOf(0, 0, 0, 0, 0, 0), () -> x.digest());
            due.is("23 nothing is saved again, round " + r, 1, () -> x.save());
        }
        due.leaves("24 from a full plant back to an empty one", Plants::empty, y -> {
            y.save();
            fillUp(y, 1);
            y.run(5000);
            return y.restore();
        });
    }

    private static void fillUp(TankPlant x, int round) {
        for (int i = 0; i < 8; i++) {
            int number = i;
            due.is("24, 2 tank " + i, number, () -> x.addTank(30 + round, 2 * number + round, number));
        }
        for (int i = 0; i < 10; i++) {
            int number = i;
            due.is("24, 3 switch " + i, number, () -> x.addSwitch(number % 8, 3 + round, 9 + number));
        }
        for (int i = 0; i < 16; i++) {
            int number = i;
            due.is("24, 4 pump " + i, number,
                    () -> x.addPump(number % 8, (number + 3) % 9 - 1, 1 + number + round, round, number % 10, number > 5));
        }
        due.isThrown("24, 2 no tank more", Due.STATE, () -> x.addTank(1, 1, 1));
        due.isThrown("24, 3 no switch more", Due.STATE, () -> x.addSwitch(0, 0, 1));
        due.isThrown("24, 4 no pump more", Due.STATE, () -> x.addPump(0, 1, 1, 1, 1, true));
    }

    private static void vanishedPartsLeaveNothing() {
        TankPlant x = Plants.swinging();
        x.save();
        x.addTank(50, 50, 1);
        x.addSwitch(1, 45, 50);
        x.addPump(1, -1, 9, 9, -1, false);
        x.run(8);
        x.restore();
        x.addTank(60, 10, 0);
        x.addSwitch(1, 2, 60);
        x.addPump(-1, 1, 1, 1, 1, true);
        due.is("24, 12 the level of the new tank", 10, () -> x.level(1));
        due.is("24, 13 its sum", 0, () -> x.levelSum(1));
        due.is("24, 14 its mean", 10.0, () -> x.meanLevel(1));
        due.is("24, 15 the new switch is off", false, () -> x.isOn(1));
        due.is("24, 16 the total of the new pump", 0, () -> x.total(2));
        due.is("24, 17 its energy", 0, () -> x.energy(2));
        due.is("24, 18 its short ticks", 0, () -> x.shortTicks(2));
        x.run(1);
        due.is("24, 12 without the old leak and pump", 11, () -> x.level(1));
        due.is("24, 17 by the new lift", 1, () -> x.energy(2));
    }

    /** "the latest save that has not been undone by a restore" */
    private static void latestThatIsNotUndone() {
        TankPlant x = Plants.swinging();
        x.save();
        x.run(1);
        x.save();
        x.run(1);
        x.save();
        x.run(1);
        x.restore();
        due.is("24, 11 the third", 2, () -> x.time());
        x.run(7);
        x.restore();
        due.is("24, 11 the second, not the third again", 1, () -> x.time());
        x.run(9);
        x.save();
        x.run(5);
        x.restore();
        due.is("24, 11 a new one in between", 10, () -> x.time());
        x.restore();
        due.is("24, 11 the first", 0, () -> x.time());
    }

    private static void depotsStayAsTheyAre() {
        due.leaves("24 two of the same", Plants::small, x -> {
            x.save();
            x.save();
            x.setLevel(0, 3);
            x.run(50);
            x.restore();
            x.setLeak(1, 4);
            x.setRate(0, 9);
            x.run(70);
            return x.restore();
        });
        due.leaves("24 what is restored is no part of a depot below", Plants::swinging, x -> {
            x.save();
            x.run(13);
            x.save();
            x.restore();
            x.run(35);
            return x.restore();
        });
        due.leaves("23 saved and restored at once", Plants::small, x -> {
            x.save();
            return x.restore();
        });
    }

    /** Saving changes nothing but the number of depots. */
    private static void savedParts() {
        int[] ticks = {0, 1, 60};
        for (int n : ticks) {
            TankPlant unsaved = Plants.full();
            unsaved.restore();
            unsaved.run(n);
            TankPlant saved = Plants.full();
            saved.restore();
            saved.save();
            saved.run(n);
            due.is("23, 12 to 22 a saved plant goes on as it would, " + n, withoutDigest(Shown.by(unsaved)),
                    () -> withoutDigest(Shown.by(saved)));
        }
    }

    private static String withoutDigest(String shown) {
        return shown.replaceAll("digest -?\\d+", "");
    }

    private static void ratesOfADepotAreItsOwn() {
        TankPlant x = Plants.full();
        for (int i = 0; i < 16; i++) {
            x.setRate(i, 100 + i);
        }
        for (int i = 0; i < 8; i++) {
            x.setLeak(i, 200 + i);
        }
        x.restore();
        for (int i = 0; i < 16; i++) {
            int pump = i;
            due.is("24, 7 the rate of pump " + i, (pump % 2 == 0 ? 3 : 2) + pump / 2, () -> x.setRate(pump, 1));
        }
        for (int i = 0; i < 8; i++) {
            int tank = i;
            due.is("24, 6 the leak of tank " + i, tank % 3, () -> x.setLeak(tank, 0));
        }
    }
}
