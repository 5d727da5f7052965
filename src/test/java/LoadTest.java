/** Steps 4 and 5: frequencies and shares of the load. */
public final class LoadTest {
    public static void main(String[] args) {
        frequencyByLoad();
        frequencyGoesBy40();
        frequencyIsNotBelow55000();
        frequencyJustAbove55000();
        groupsByThemselves();
        evenShares();
        leftOverStaysInTheGroup();
        leftOverAlsoWithoutWeight();
        governors();
        governorsByRating();
        unloadingShares();
        allWeightsAre0();
        shoreShares();
        Check.end("LoadTest");
    }

    private static void frequencyByLoad() {
        int[] demands = {0, 1, 500, 777, 1000};
        int[] due = {60600, 60599, 60000, 59668, 59400};
        for (int i = 0; i < demands.length; i++) {
            ShipPower x = Scene.running(0);
            Scene.burden(x, demands[i]);
            Scene.run(x, 50);
            Check.same("demand " + demands[i], x.bus(0, 0), due[i]);
        }
        ShipPower two = Scene.running(0, 1);
        Scene.burden(two, 777);
        Scene.run(two, 50);
        Check.same("1200 * 777 / 2000 is 466", two.bus(0, 0), 60134);
    }

    private static void frequencyGoesBy40() {
        ShipPower x = Scene.running(0);
        int frequency = x.bus(0, 0);
        int phase = x.bus(0, 1);
        Check.same("tick 30", frequency, 59040);
        for (int i = 0; i < 45; i++) {
            x.tick();
            frequency = Math.min(60600, frequency + 40);
            phase = (phase + 9 * frequency) % 180000;
            Check.same("up", x.bus(0, 0), frequency);
            Check.same("phase", x.bus(0, 1), phase);
        }
        Scene.burden(x, 90);
        int[] down = {60560, 60520, 60492, 60492};
        for (int due : down) {
            x.tick();
            Check.same("down", x.bus(0, 0), due);
        }
    }

    /** A load of ten times the rating, with breakers that stick, so that nothing leaves. */
    private static void frequencyIsNotBelow55000() {
        ShipPower x = Scene.running(4);
        x.stick(4, true);
        for (int i = 0; i < 10; i++) {
            Scene.asked(x, 2, 5, 199, 10);
        }
        Scene.run(x, 200);
        Check.same("least", x.bus(2, 0), 55000);
    }

    /** "the TARGET is 60600 - 1200 * demand / capacity, 55000 at least": 6 for each kilowatt of set 4. */
    private static void frequencyJustAbove55000() {
        int[] demands = {932, 933, 934};
        int[] due = {55008, 55002, 55000};
        for (int i = 0; i < demands.length; i++) {
            ShipPower x = Scene.running(4);
            x.stick(4, true);
            for (int rest = demands[i]; rest > 0; rest -= 199) {
                Scene.asked(x, 2, 5, Math.min(rest, 199), 10);
            }
            Scene.run(x, 200);
            Check.same("demand " + demands[i], x.bus(2, 0), due[i]);
        }
    }

    /** "what is left over of the demand goes .. to the sets by numbers": those of the group. */
    private static void leftOverStaysInTheGroup() {
        ShipPower x = Scene.with(0, 1, 2, 3);
        x.tie(false);
        for (int set = 0; set < 4; set++) {
            x.start(set);
        }
        Scene.run(x, 30);
        Scene.asked(x, 0, 5, 10, 10);
        Scene.asked(x, 1, 5, 21, 10);
        Scene.run(x, 1);
        loadsAre("the one left over goes to 2", x, 5, 5, 11, 10);
        Scene.asked(x, 2, 5, 1, 10);
        Scene.run(x, 1);
        loadsAre("one at each side", x, 6, 5, 11, 10);
    }

    /** Set 0 cannot leave and has weight 0: no share, but it is the first of what is left over. */
    private static void leftOverAlsoWithoutWeight() {
        ShipPower x = Scene.running(0, 1, 2);
        x.order(1 | 2 << 2 | 3 << 4 | 0 << 6);
        x.mode(3);
        Scene.run(x, 190);
        Check.same("0 goes", Scene.state(x, 0), Scene.UNLOADING);
        x.stick(0, true);
        Scene.run(x, 25);
        Check.same("weight 0", x.set(0, 5), 0);
        Scene.burden(x, 101);
        Scene.run(x, 1);
        loadsAre("one left over", x, 1, 50, 50, 0);
    }

    private static void groupsByThemselves() {
        ShipPower x = Scene.with(0, 2);
        x.tie(false);
        x.start(0);
        x.start(2);
        Scene.run(x, 30);
        Scene.asked(x, 0, 5, 100, 10);
        Scene.asked(x, 2, 5, 50, 10);
        Scene.asked(x, 1, 5, 10, 10);
        Scene.run(x, 50);
        Check.same("bus 0", x.bus(0, 0), 60420);
        Check.same("bus 1", x.bus(1, 0), 60588);
        Check.same("bus 2", x.bus(2, 0), 60420);
        Check.same("load of 0", Scene.load(x, 0), 150);
        Check.same("load of 2", Scene.load(x, 2), 10);
    }

    private static void loadsAre(String what, ShipPower x, int... due) {
        for (int set = 0; set < due.length; set++) {
            Check.same(what + ": load of " + set, Scene.load(x, set), due[set]);
        }
    }

    private static void evenShares() {
        ShipPower x = Scene.running(0, 1, 2);
        Scene.burden(x, 190);
        Scene.run(x, 1);
        loadsAre("the one left over goes to 0", x, 64, 63, 63, 0);
        Scene.asked(x, 1, 5, 1, 10);
        Scene.run(x, 1);
        loadsAre("two left over", x, 64, 64, 63, 0);
        Scene.asked(x, 2, 5, 1, 10);
        Scene.run(x, 1);
        loadsAre("none left over", x, 64, 64, 64, 0);
    }

    private static void governors() {
        ShipPower x = Scene.running(0, 1, 2);
        Scene.burden(x, 100);
        x.fail(1, Scene.HIGH);
        Scene.run(x, 1);
        loadsAre("1 HIGH", x, 25, 50, 25);
        x.fail(1, Scene.LOW);
        Scene.run(x, 1);
        // 44, 11, 44 and one left over.
        loadsAre("1 LOW", x, 45, 11, 44);
        x.fail(0, Scene.HIGH);
        Scene.run(x, 1);
        // 61, 7, 30 and two left over.
        loadsAre("0 HIGH, 1 LOW", x, 62, 8, 30);
        x.fail(0, Scene.NODE_DEAD);
        x.fail(1, Scene.NO_START);
        Scene.run(x, 1);
        loadsAre("other failures do nothing here", x, 34, 33, 33);
    }

    private static void governorsByRating() {
        ShipPower x = Scene.running(4);
        Scene.asked(x, 2, 5, 77, 10);
        x.fail(4, Scene.LOW);
        Scene.run(x, 1);
        Check.same("alone it has all", Scene.load(x, 4), 77);
    }

    /** Set 1 is sent away in tick 220; its weight is 950 in the loads of tick 221. */
    private static void unloadingShares() {
        ShipPower x = Scene.running(0, 1);
        Scene.burden(x, 100);
        Scene.run(x, 190);
        Check.same("UNLOADING", Scene.state(x, 1), Scene.UNLOADING);
        Check.same("its weight", x.set(1, 5), 950);
        loadsAre("as it was", x, 50, 50);
        Scene.run(x, 1);
        // 100 * 1000 / 1950 and 100 * 950 / 1950: 51 and 48.
        loadsAre("950", x, 52, 48);
        x.fail(1, Scene.LOW);
        Scene.run(x, 1);
        // 900 / 4 is 225: 81 and 18.
        loadsAre("225", x, 82, 18);
        x.fail(1, 0);
        Scene.run(x, 16);
        Check.same("its weight", x.set(1, 5), 50);
        Scene.run(x, 1);
        Check.same("COOLING", Scene.state(x, 1), Scene.COOLING);
        loadsAre("50 in the tick in which it left", x, 96, 0);
        Scene.run(x, 1);
        loadsAre("then 0 has all", x, 100, 0);
    }

    /** A set that cannot leave, with weight 0, and no other one. */
    private static void allWeightsAre0() {
        ShipPower x = Scene.running(0, 1);
        Scene.burden(x, 100);
        Scene.run(x, 190);
        x.stick(1, true);
        Scene.run(x, 30);
        Check.same("UNLOADING", Scene.state(x, 1), Scene.UNLOADING);
        Check.same("weight 0", x.set(1, 5), 0);
        loadsAre("it carries nothing", x, 100, 0);
        x.trip(0);
        Scene.run(x, 1);
        loadsAre("none carries anything", x, 0, 0);
        Check.same("though the bus is live", x.bus(0, 5), 1);
        Check.same("with demand", x.bus(0, 3), 100);
        Check.same("and a frequency by that", x.bus(0, 0), 60500);
        Check.same("ticks 239 .. 251 it was to leave", x.count(8), 13);
    }

    private static void shoreShares() {
        ShipPower x = Scene.running(0);
        Scene.run(x, 60);
        x.shore(true, 60700);
        x.takeShore();
        Check.yes("the shore comes", x.ticks(300) < 300);
        Check.same("the shore is ON", Scene.state(x, 5), Scene.ON);
        Scene.burden(x, 161);
        Scene.run(x, 1);
        Check.same("161 * 1000 / 1600 and one left over", Scene.load(x, 0), 101);
        Check.same("161 * 600 / 1600", Scene.load(x, 5), 60);
    }
}
