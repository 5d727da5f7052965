/** Steps 2 and 3: sets that close, and the feeders of bus 2. */
public final class ClosingTest {
    public static void main(String[] args) {
        deadBusTakesAll();
        sameTick();
        nodeDeadClosesNothing();
        emergency();
        emergencyAndStickingFeeder();
        emergencyBreakerSticks();
        emergencyGoes();
        emergencyGoesAfterEachOfHundred();
        emergencyGoesByBus0();
        emergencyGoesWithNodeDead();
        emergencySticks();
        emergencyKeepsFeedersOpen();
        hundredTicksAheadOfIt();
        hundredTicksFromTheFirst();
        feedersChange();
        neitherFeeder();
        joinedBusKeepsItsOwn();
        Check.end("ClosingTest");
    }

    private static void deadBusTakesAll() {
        ShipPower x = Scene.with(0);
        x.start(0);
        Scene.run(x, 30);
        for (int bus = 0; bus < 3; bus++) {
            Check.same("59000 and 40", x.bus(bus, 0), 59040);
            Check.same("phase", x.bus(bus, 1), 9 * 59040 % 180000);
        }
        Check.same("ON", Scene.state(x, 0), Scene.ON);
        Check.same("weight", x.set(0, 5), 1000);
    }

    /** What starts together closes together: the second is in step with what the first made. */
    private static void sameTick() {
        ShipPower x = Scene.running(0, 1, 2, 3);
        Check.same("all of them", x.count(6), 192 | 15);
    }

    private static void nodeDeadClosesNothing() {
        ShipPower x = Scene.with();
        x.start(0);
        x.start(4);
        Scene.run(x, 40);
        Check.same("0 is IDLE", Scene.state(x, 0), Scene.IDLE);
        Check.same("4 is IDLE", Scene.state(x, 4), Scene.IDLE);
        Check.same("breakers", x.count(6), 192);
        x.fail(0, 0);
        Scene.run(x, 1);
        Check.same("0 is ON", Scene.state(x, 0), Scene.ON);
        Check.same("from its own speed", x.bus(0, 0), 59000 + 11 * 20 + 40);
    }

    private static void emergency() {
        ShipPower x = Scene.with(4);
        x.start(4);
        Scene.run(x, 30);
        Check.same("7 opened, 4 closed, the tie as it was", x.count(6), 64 | 16);
        Check.same("ON is the latest but the ladder is not moved", Scene.happened(x, 0), 300000 + 204);
        Check.same("7 opened ahead of that", Scene.happened(x, 1), 300000 + 1107);
        Check.same("bus 2", x.bus(2, 0), 59040);
        Check.same("bus 0", x.bus(0, 0), 0);
        Check.same("capacity", x.bus(2, 4), 200);
    }

    private static void emergencyAndStickingFeeder() {
        ShipPower x = Scene.with(4);
        x.stick(7, true);
        x.start(4);
        Scene.run(x, 32);
        Check.same("no more is done", x.count(6), 192);
        Check.same("in each of three ticks", x.count(8), 3);
        Check.same("IDLE", Scene.state(x, 4), Scene.IDLE);
        x.stick(7, false);
        Scene.run(x, 1);
        Check.same("then it is", x.count(6), 64 | 16);
    }

    private static void emergencyBreakerSticks() {
        ShipPower x = Scene.with(4);
        x.stick(4, true);
        x.start(4);
        Scene.run(x, 32);
        Check.same("7 stays open", x.count(6), 64);
        Check.same("in each of three ticks", x.count(8), 3);
        Check.same("7 opened once", Scene.kept(x, 11, 7), 1);
        Check.same("IDLE", Scene.state(x, 4), Scene.IDLE);
    }

    /** Set 4 is ON from tick 30, bus 0 live from tick 60 on. */
    private static ShipPower bothPlants() {
        ShipPower x = Scene.with(4);
        x.start(4);
        Scene.run(x, 30);
        x.fail(0, 0);
        x.start(0);
        Scene.run(x, 10);
        Check.same("STARTING", Scene.state(x, 0), Scene.STARTING);
        Scene.run(x, 20);
        return x;
    }

    private static void emergencyGoes() {
        ShipPower x = bothPlants();
        Check.same("tick 60: bus 0 is live", x.bus(0, 5), 1);
        Scene.run(x, 98);
        Check.same("99 ticks of that", Scene.state(x, 4), Scene.ON);
        Scene.run(x, 1);
        Check.same("100", Scene.state(x, 4), Scene.COOLING);
        Check.same("with 100 left", x.set(4, 6), 100);
        Check.same("bus 2 is dead for a tick", x.bus(2, 5), 0);
        Scene.run(x, 1);
        Check.same("7 closed", x.count(6), 193);
        Check.same("an event", Scene.happened(x, 0), 160 * 10000 + 1007);
        Check.same("bus 2 is in step", x.bus(2, 0), x.bus(0, 0));
        Check.same("with phase", x.bus(2, 1), x.bus(0, 1));
    }

    private static void emergencyGoesAfterEachOfHundred() {
        ShipPower x = Scene.with(0, 2, 4);
        x.tie(false);
        x.start(4);
        Scene.run(x, 5);
        x.start(0);
        Scene.run(x, 5);
        x.start(2);
        Scene.run(x, 89);
        Check.same("bus 0 since 35, bus 1 since 40", x.count(0), 99);
        x.trip(0);
        Scene.run(x, 39);
        Check.same("138: neither by itself", Scene.state(x, 4), Scene.ON);
        Scene.run(x, 1);
        Check.same("139: bus 1 a hundred times", Scene.state(x, 4), Scene.COOLING);
        Scene.run(x, 1);
        Check.same("8 closed", x.count(6), 256 | 4);
    }

    private static void emergencyGoesByBus0() {
        ShipPower x = Scene.with(0, 4);
        x.tie(false);
        x.start(4);
        Scene.run(x, 5);
        x.start(0);
        Scene.run(x, 30 + 98);
        Check.same("bus 0 99 times", Scene.state(x, 4), Scene.ON);
        Scene.run(x, 1);
        Check.same("a hundred times", Scene.state(x, 4), Scene.COOLING);
    }

    /** Step 3 makes no exception of a NODE DEAD set 4. */
    private static void emergencyGoesWithNodeDead() {
        ShipPower x = bothPlants();
        x.fail(4, Scene.NODE_DEAD);
        Scene.run(x, 98);
        Check.same("99 ticks", Scene.state(x, 4), Scene.ON);
        Scene.run(x, 1);
        Check.same("100", Scene.state(x, 4), Scene.COOLING);
    }

    private static void emergencySticks() {
        ShipPower x = bothPlants();
        x.stick(4, true);
        Scene.run(x, 101);
        Check.same("ON all the same", Scene.state(x, 4), Scene.ON);
        Check.same("ticks 159 to 161", x.count(8), 3);
        Check.no("7 stays open", Scene.isClosed(x, 7));
    }

    /** "If set 4 is not ON": while it is, no feeder closes, live as buses 0 and 1 may be. */
    private static void emergencyKeepsFeedersOpen() {
        ShipPower x = bothPlants();
        Scene.run(x, 98);
        Check.same("tick 158", x.count(6), 1 | 16 | 64);
        Check.same("bus 2 is apart", x.bus(2, 2), 2);
    }

    /** "in each of the last 100 ticks, this one included": also those in which set 4 was not ON. */
    private static void hundredTicksAheadOfIt() {
        ShipPower x = bothPlants();
        Scene.run(x, 99);
        Check.same("tick 159", Scene.state(x, 4), Scene.COOLING);
        x.stick(7, true);
        Scene.run(x, 100);
        Check.same("bus 2 is dead", x.bus(2, 5), 0);
        Check.yes("4 is started by hand", x.start(4));
        Scene.run(x, 29);
        Check.same("STARTING", Scene.state(x, 4), Scene.STARTING);
        Scene.run(x, 1);
        Check.same("ON and off again in one tick", Scene.state(x, 4), Scene.COOLING);
        Check.same("COOLING", Scene.happened(x, 0), 289 * 10000 + 304);
        Check.same("ON", Scene.happened(x, 1), 289 * 10000 + 204);
        Check.same("IDLE", Scene.happened(x, 2), 289 * 10000 + 104);
    }

    /** Bus 1 is live from the first tick on: by the shore, and when that goes by set 2. */
    private static void hundredTicksFromTheFirst() {
        ShipPower x = Scene.with(2, 4);
        x.shore(true, 59333);
        x.takeShore();
        x.start(2);
        x.start(4);
        Check.same("the shore closes in tick 1", x.ticks(100), 1);
        Check.yes("2 comes in time", x.ticks(90) < 90);
        Check.same("2 is ON", Scene.state(x, 2), Scene.ON);
        x.tie(false);
        x.shore(false, 0);
        x.tick();
        Check.same("4 is ON", Scene.state(x, 4), Scene.ON);
        Scene.run(x, 99 - x.count(0));
        Check.same("99 ticks", Scene.state(x, 4), Scene.ON);
        Scene.run(x, 1);
        Check.same("100", Scene.state(x, 4), Scene.COOLING);
    }

    /** Tie open, sets 0 and 2 ON, each at its side. */
    private static ShipPower twoSides() {
        ShipPower x = Scene.with(0, 2);
        x.tie(false);
        x.start(0);
        x.start(2);
        Scene.run(x, 60);
        return x;
    }

    private static void feedersChange() {
        ShipPower x = twoSides();
        Check.same("fed from 0", x.count(6), 1 | 4 | 128);
        Scene.asked(x, 1, 5, 100, 10);
        Scene.run(x, 60);
        x.trip(0);
        Check.same("dead", x.bus(2, 5), 0);
        Scene.run(x, 1);
        Check.same("fed from 1", x.count(6), 4 | 256);
        Check.same("8 closed", Scene.happened(x, 0), 1210000 + 1008);
        Check.same("7 opened", Scene.happened(x, 1), 1210000 + 1107);
        Check.same("in step", x.bus(2, 0), x.bus(1, 0));
        Check.same("60480", x.bus(2, 0), 60480);
        // Set 0 is OFF in tick 320 and called in that tick.
        Scene.run(x, 229);
        Check.same("0 is ON again in tick 350", Scene.state(x, 0), Scene.ON);
        Check.same("fed from 1 still", x.count(6), 1 | 4 | 256);
        x.trip(2);
        Scene.run(x, 1);
        Check.same("fed from 0 again", x.count(6), 1 | 128);
        Check.same("live", x.bus(2, 5), 1);
    }

    private static void neitherFeeder() {
        ShipPower x = Scene.with(4);
        x.start(4);
        Scene.run(x, 30);
        x.trip(4);
        Scene.run(x, 5);
        Check.same("nothing to feed from", x.count(6), 64);
        x.fail(0, 0);
        x.start(0);
        Scene.run(x, 30);
        Check.same("7, in the tick in which 0 closes", x.count(6), 193);
        Check.same("bus 2 goes along", x.bus(2, 0), 59040);

        ShipPower y = Scene.with(4);
        y.tie(false);
        y.start(4);
        Scene.run(y, 30);
        y.trip(4);
        y.stick(7, true);
        y.fail(0, 0);
        y.fail(2, 0);
        y.start(0);
        y.start(2);
        Scene.run(y, 31);
        Check.same("7 sticks, and 8 is for a dead bus 0", y.count(6), 1 | 4);
        Check.same("two ticks", y.count(8), 2);
    }

    /** "Bus 2 is in step with what it is joined to by that", not the other way round: it ran at 60600. */
    private static void joinedBusKeepsItsOwn() {
        for (int bus = 0; bus < 2; bus++) {
            int set = 2 * bus;
            ShipPower x = Scene.with(set, 4);
            x.tie(false);
            x.start(4);
            Scene.run(x, 5);
            x.start(set);
            Scene.asked(x, bus, 5, 100, 10);
            Scene.run(x, 30 + 99);
            Check.same("4 has left", Scene.state(x, 4), Scene.COOLING);
            Check.same("60600 - 120", x.bus(bus, 0), 60480);
            int phase = (x.bus(bus, 1) + 9 * 60480) % 180000;
            Scene.run(x, 1);
            Check.yes("joined", Scene.isClosed(x, 7 + bus));
            Check.same("the frequency of bus " + bus, x.bus(bus, 0), 60480);
            Check.same("the phase of bus " + bus, x.bus(bus, 1), phase);
            Check.same("the frequency of bus 2", x.bus(2, 0), 60480);
            Check.same("the phase of bus 2", x.bus(2, 1), phase);
        }
    }
}
