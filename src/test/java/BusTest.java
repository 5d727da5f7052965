/** Promise 15: bus; groups, leads, what is live. */
public final class BusTest {
    public static void main(String[] args) {
        leads();
        wholeGroup();
        deadBus();
        liveByUnloading();
        notLiveByOthers();
        liveByBus2();
        ratings();
        noSuchBus();
        noSuchWhat();
        Check.end("BusTest");
    }

    private static void leadsAre(String what, ShipPower x, int lead0, int lead1, int lead2) {
        Check.same(what + ": bus 0", x.bus(0, 2), lead0);
        Check.same(what + ": bus 1", x.bus(1, 2), lead1);
        Check.same(what + ": bus 2", x.bus(2, 2), lead2);
    }

    private static void leads() {
        ShipPower x = new ShipPower();
        leadsAre("6 and 7", x, 0, 0, 0);
        x.tie(false);
        leadsAre("7", x, 0, 1, 0);
        x.start(4);
        Scene.run(x, 30);
        leadsAre("none", x, 0, 1, 2);
        x.tie(true);
        Scene.run(x, 1);
        leadsAre("6", x, 0, 0, 2);

        ShipPower y = Scene.with(2);
        y.tie(false);
        y.start(2);
        Scene.run(y, 30);
        Check.same("8 is closed", y.count(6), 1 << 8 | 1 << 2);
        leadsAre("8", y, 0, 1, 1);
        y.tie(true);
        Scene.run(y, 1);
        leadsAre("6 and 8", y, 0, 0, 0);
    }

    private static void wholeGroup() {
        ShipPower x = Scene.running(0);
        Scene.asked(x, 0, 5, 10, 10);
        Scene.asked(x, 1, 5, 20, 10);
        Scene.asked(x, 2, 5, 40, 10);
        Scene.run(x, 50);
        for (int bus = 0; bus < 3; bus++) {
            Check.same("frequency", x.bus(bus, 0), 60516);
            Check.same("phase", x.bus(bus, 1), x.bus(0, 1));
            Check.same("demand", x.bus(bus, 3), 70);
            Check.same("capacity", x.bus(bus, 4), 1000);
            Check.same("live", x.bus(bus, 5), 1);
        }
        int phase = x.bus(0, 1);
        x.tick();
        Check.same("the phase grows by 9 * frequency", x.bus(0, 1), (phase + 9 * 60516) % 180000);
        x.tie(false);
        Check.same("demand without bus 1", x.bus(0, 3), 50);
        Check.same("demand of bus 1", x.bus(1, 3), 20);
        Check.same("no capacity there", x.bus(1, 4), 0);
    }

    private static void deadBus() {
        ShipPower x = Scene.running(0);
        Scene.run(x, 50);
        x.tie(false);
        Check.same("bus 1: no frequency", x.bus(1, 0), 0);
        Check.same("bus 1: no phase", x.bus(1, 1), 0);
        Check.same("bus 1: not live", x.bus(1, 5), 0);
        Check.same("bus 0 is live", x.bus(0, 5), 1);
        x.trip(0);
        Check.same("bus 2: no frequency", x.bus(2, 0), 0);
        Check.same("bus 2: not live", x.bus(2, 5), 0);
        x.tick();
        Check.same("none after a tick", x.bus(0, 0), 0);
        Check.same("nor phase", x.bus(0, 1), 0);
    }

    /** "It is LIVE if a set at one of its buses is ON or UNLOADING." */
    private static void liveByUnloading() {
        ShipPower x = Scene.running(0, 1);
        Scene.run(x, 192);
        x.trip(0);
        Check.same("UNLOADING", Scene.state(x, 1), Scene.UNLOADING);
        for (int bus = 0; bus < 3; bus++) {
            Check.same("live", x.bus(bus, 5), 1);
            Check.same("capacity", x.bus(bus, 4), 1000);
        }
        Scene.run(x, 30);
        Check.same("no more with its end", x.bus(0, 5), 0);
    }

    private static void notLiveByOthers() {
        ShipPower x = Scene.with();
        x.fail(1, Scene.NO_START);
        x.start(1);
        x.start(0);
        Check.same("STARTING", x.bus(0, 5), 0);
        Scene.run(x, 90);
        Check.same("IDLE", Scene.state(x, 0), Scene.IDLE);
        Check.same("BLOCKED", Scene.state(x, 1), Scene.BLOCKED);
        Check.same("neither is at the bus", x.bus(0, 5), 0);
        Check.same("no capacity", x.bus(0, 4), 0);
        x.fail(0, 0);
        Scene.run(x, 1);
        Check.same("ON", x.bus(0, 5), 1);
        x.trip(0);
        Check.same("COOLING", x.bus(0, 5), 0);
    }

    /** Set 4 makes its own bus live, and no other. */
    private static void liveByBus2() {
        ShipPower x = Scene.running(4);
        Check.same("bus 2", x.bus(2, 5), 1);
        Check.same("bus 1", x.bus(1, 5), 0);
        Check.same("bus 0", x.bus(0, 5), 0);
    }

    private static void ratings() {
        int[] due = {1000, 1000, 1000, 1000, 200};
        int[] at = {0, 0, 1, 1, 2};
        for (int set = 0; set < 5; set++) {
            ShipPower x = Scene.with(set);
            x.tie(false);
            x.start(set);
            Scene.run(x, 30);
            Check.same("capacity of " + set, x.bus(at[set], 4), due[set]);
            Check.same("not at another bus", x.bus((at[set] + 1) % 2, 4), 0);
        }
        ShipPower shore = Scene.shoreTaken(60000);
        shore.tie(false);
        Scene.run(shore, 1);
        Check.same("capacity of the shore", shore.bus(0, 4), 600);
        Check.same("not at bus 1", shore.bus(1, 4), 0);
    }

    /** "IndexOutOfBoundsException if there is no such bus or what" */
    private static void noSuchBus() {
        ShipPower x = new ShipPower();
        int[] wrong = {-1, 3, Integer.MAX_VALUE, Integer.MIN_VALUE};
        for (int bus : wrong) {
            for (int what = 0; what < 6; what++) {
                int one = what;
                Check.refused("bus " + bus, IndexOutOfBoundsException.class, () -> x.bus(bus, one));
            }
        }
    }

    private static void noSuchWhat() {
        ShipPower x = new ShipPower();
        int[] wrong = {-1, 6, Integer.MAX_VALUE, Integer.MIN_VALUE};
        for (int what : wrong) {
            for (int bus = 0; bus < 3; bus++) {
                int one = bus;
                Check.refused("what " + what, IndexOutOfBoundsException.class, () -> x.bus(one, what));
            }
        }
    }
}
