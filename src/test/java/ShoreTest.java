/** Promises 12 and 13: shore and takeShore; sets in PARALLEL with the shore (step 10). */
public final class ShoreTest {
    public static void main(String[] args) {
        shoreRange();
        shoreRefusedChangesNothing();
        shoreGoneWithAnyFrequency();
        takeShore();
        takeShoreThatIsNotThere();
        takeShoreThatIsNotOff();
        takeShoreBeginsAnew();
        shoreGoesWhileOn();
        shoreGoesWhileIdle();
        shoreGoesWhileCooling();
        shoreComesAgain();
        shoreGoesWhileItSticks();
        speedIsWhatWasTold();
        busGoesToTheShore();
        closesInStepOnly();
        parallel();
        parallelIsBrokenOff();
        parallelNeedsOneGroup();
        parallelOnlyOfThoseThatAreOn();
        parallelNotByUnloadingOnes();
        parallelWithNodeDead();
        parallelBeginsAnew();
        Check.end("ShoreTest");
    }

    /** "false if that is not 55000 .. 65000" */
    private static void shoreRange() {
        int[] good = {55000, 60000, 65000};
        for (int milliHertz : good) {
            ShipPower x = new ShipPower();
            Check.yes("at " + milliHertz, x.shore(true, milliHertz));
            Check.yes("there", x.takeShore());
            Check.same("at that", x.set(5, 3), milliHertz);
        }
        int[] bad = {54999, 65001, 0, -60000, Integer.MAX_VALUE, Integer.MIN_VALUE};
        for (int milliHertz : bad) {
            ShipPower x = new ShipPower();
            Check.no("at " + milliHertz, x.shore(true, milliHertz));
            Check.no("none there", x.takeShore());
        }
    }

    private static void shoreRefusedChangesNothing() {
        ShipPower x = new ShipPower();
        x.shore(true, 61000);
        Check.no("refused", x.shore(true, 65001));
        Check.yes("there as it was", x.takeShore());
        Check.same("at that", x.set(5, 3), 61000);
        x.shore(false, 0);
        Check.no("refused", x.shore(true, 54999));
        Check.no("gone as it was", x.takeShore());
    }

    /** "(looked at only with true)" */
    private static void shoreGoneWithAnyFrequency() {
        int[] any = {60000, 54999, 65001, 0, -1, Integer.MAX_VALUE, Integer.MIN_VALUE};
        for (int milliHertz : any) {
            ShipPower x = new ShipPower();
            x.shore(true, 60000);
            Check.yes("gone, " + milliHertz, x.shore(false, milliHertz));
            Check.no("none there", x.takeShore());
            Check.yes("gone again, " + milliHertz, x.shore(false, milliHertz));
        }
    }

    /** "Set 5, if the shore is there and it is OFF, is IDLE, its speed the shore's, its phase 0: true" */
    private static void takeShore() {
        ShipPower x = new ShipPower();
        x.shore(true, 60000);
        Check.yes("taken", x.takeShore());
        Check.same("IDLE", Scene.state(x, 5), Scene.IDLE);
        Check.same("speed", x.set(5, 3), 60000);
        Check.same("phase", x.set(5, 4), 0);
        Check.same("an event", Scene.happened(x, 0), 105);
        x.tick();
        Check.same("ON, the bus being dead", Scene.state(x, 5), Scene.ON);
        Check.same("capacity", x.bus(0, 4), 600);
    }

    private static void takeShoreThatIsNotThere() {
        ShipPower x = new ShipPower();
        Check.no("none there", x.takeShore());
        x.shore(true, 60000);
        x.shore(false, 0);
        Check.no("gone", x.takeShore());
        Check.same("OFF", Scene.state(x, 5), Scene.OFF);
        Check.same("no events", x.count(5), 0);
    }

    private static void takeShoreThatIsNotOff() {
        ShipPower x = new ShipPower();
        x.shore(true, 60000);
        x.takeShore();
        Check.no("IDLE already", x.takeShore());
        x.tick();
        Check.no("ON already", x.takeShore());
        x.trip(5);
        Check.no("COOLING", x.takeShore());
        Scene.run(x, 199);
        Check.no("COOLING still", x.takeShore());
        Scene.run(x, 1);
        Check.yes("OFF again", x.takeShore());
    }

    /** "its phase 0": also the second time. */
    private static void takeShoreBeginsAnew() {
        ShipPower x = Scene.running(0);
        Scene.run(x, 100);
        x.shore(true, 60001);
        x.takeShore();
        Scene.run(x, 3);
        Check.same("its phase", x.set(5, 4), 27);
        x.shore(false, 0);
        x.shore(true, 59000);
        x.takeShore();
        Check.same("its phase", x.set(5, 4), 0);
        Check.same("its speed", x.set(5, 3), 59000);
    }

    /** "Without it set 5, if it is ON or UNLOADING, is OFF, its breaker open" */
    private static void shoreGoesWhileOn() {
        ShipPower x = Scene.onShore(60000);
        Scene.burden(x, 700);
        Scene.run(x, 1);
        Check.same("hot", x.set(5, 2), 100);
        int events = x.count(5);
        Check.yes("gone", x.shore(false, 0));
        Check.same("OFF", Scene.state(x, 5), Scene.OFF);
        Check.same("its breaker is open", x.count(6), 192);
        Check.same("no load", Scene.load(x, 5), 0);
        Check.same("no heat once it left", x.set(5, 2), 0);
        Check.same("bus 0 is dead", x.bus(0, 0), 0);
        Check.same("no event of that", x.count(5), events);
    }

    /** "and it is OFF if it was IDLE" */
    private static void shoreGoesWhileIdle() {
        ShipPower x = new ShipPower();
        x.shore(true, 60000);
        x.takeShore();
        x.shore(false, 0);
        Check.same("OFF", Scene.state(x, 5), Scene.OFF);
        x.tick();
        Check.same("OFF still", Scene.state(x, 5), Scene.OFF);
    }

    private static void shoreGoesWhileCooling() {
        ShipPower x = Scene.onShore(60000);
        x.trip(5);
        x.shore(false, 0);
        Check.same("a COOLING one stays", Scene.state(x, 5), Scene.COOLING);
        Check.same("with what is left", x.set(5, 6), 200);
        Scene.run(x, 200);
        Check.same("until it is OFF", Scene.state(x, 5), Scene.OFF);
    }

    /** "with it all stays" */
    private static void shoreComesAgain() {
        ShipPower x = Scene.onShore(60000);
        int events = x.count(5);
        x.shore(true, 61000);
        Check.same("ON", Scene.state(x, 5), Scene.ON);
        Check.same("the bus as it was", x.bus(0, 0), 60000);
        x.trip(5);
        x.shore(true, 60000);
        Check.same("COOLING", x.set(5, 6), 200);
        Scene.run(x, 200);
        x.shore(true, 60500);
        Check.same("OFF", Scene.state(x, 5), Scene.OFF);
        x.takeShore();
        x.shore(true, 60700);
        Check.same("IDLE", Scene.state(x, 5), Scene.IDLE);
        Check.same("its speed until a tick", x.set(5, 3), 60500);
        Check.same("a trip, a ladder, an IDLE set", x.count(5), events + 3);
    }

    /** "its breaker open (also if it sticks)" */
    private static void shoreGoesWhileItSticks() {
        ShipPower x = Scene.onShore(60000);
        x.stick(5, true);
        x.shore(false, 0);
        Check.same("OFF", Scene.state(x, 5), Scene.OFF);
        Check.same("open all the same", x.count(6), 192);
        Check.same("it did open", x.count(8), 0);
    }

    private static void speedIsWhatWasTold() {
        ShipPower x = Scene.running(0);
        Scene.run(x, 100);
        x.shore(true, 60000);
        x.takeShore();
        x.tick();
        Check.same("speed", x.set(5, 3), 60000);
        Check.same("phase, three rounds", x.set(5, 4), 0);
        x.shore(true, 61000);
        Check.same("all stays until a tick", x.set(5, 3), 60000);
        x.tick();
        Check.same("at once then", x.set(5, 3), 61000);
        Check.same("9 * 61000", x.set(5, 4), 9000);
    }

    /** "but with set 5 among them the shore's frequency": by 40, and whatever the load. */
    private static void busGoesToTheShore() {
        ShipPower x = Scene.onShore(60000);
        x.shore(true, 60100);
        Check.same("the bus as it was", x.bus(0, 0), 60000);
        x.tick();
        Check.same("by 40", x.bus(0, 0), 60040);
        Scene.run(x, 2);
        Check.same("to what was told", x.bus(0, 0), 60100);
        Scene.asked(x, 0, 5, 150, 10);
        Scene.run(x, 5);
        Check.same("whatever the load", x.bus(0, 0), 60100);
    }

    private static void closesInStepOnly() {
        ShipPower near = Scene.running(0);
        Scene.run(near, 100);
        Check.same("the bus", near.bus(0, 0), 60600);
        near.shore(true, 60750);
        near.takeShore();
        Check.yes("150 apart", near.ticks(200) < 200);
        Check.same("ON", Scene.state(near, 5), Scene.ON);

        ShipPower far = Scene.running(0);
        Scene.run(far, 100);
        far.shore(true, 60751);
        far.takeShore();
        Check.same("151 apart", far.ticks(1000), 1000);
        Check.same("IDLE", Scene.state(far, 5), Scene.IDLE);

        ShipPower below = Scene.running(0);
        Scene.run(below, 100);
        below.shore(true, 60449);
        below.takeShore();
        Check.same("151 below", below.ticks(1000), 1000);
    }

    /** In one group for 200 ticks: the main sets are sent away. */
    private static void parallel() {
        ShipPower x = Scene.running(0, 2);
        Scene.run(x, 5);
        // With reserve 1000 and a demand the manager keeps both of them by itself.
        x.mode(3);
        Scene.asked(x, 0, 5, 10, 10);
        x.shore(true, 60700);
        x.takeShore();
        int waited = 0;
        while (Scene.state(x, 5) != Scene.ON && waited < 600) {
            x.tick();
            waited++;
        }
        Check.same("ON", Scene.state(x, 5), Scene.ON);
        Scene.run(x, 198);
        Check.same("199 ticks", Scene.state(x, 0), Scene.ON);
        Scene.run(x, 1);
        Check.same("200 ticks: 0", Scene.state(x, 0), Scene.UNLOADING);
        Check.same("200 ticks: 2", Scene.state(x, 2), Scene.UNLOADING);
        Check.same("its weight is whole as yet", x.set(0, 5), 1000);
        Check.same("the later event", Scene.happened(x, 0) % 10000, 602);
        Check.same("the earlier one", Scene.happened(x, 1) % 10000, 600);
        Scene.run(x, 19);
        Check.same("50 left", x.set(0, 5), 50);
        Scene.run(x, 1);
        Check.same("gone", Scene.state(x, 0), Scene.COOLING);
        Check.same("with 100 left", x.set(2, 6), 100);
        Check.same("by numbers: 2 is the last", Scene.happened(x, 0) % 10000, 302);
        Check.same("0 was ahead of it", Scene.happened(x, 1) % 10000, 300);
        Check.same("the shore alone", x.bus(0, 4), 600);
    }

    /** "else none": after 150 ticks the tie is open for one, and 199 more are not enough. */
    private static void parallelIsBrokenOff() {
        ShipPower x = Scene.shoreTaken(60000);
        x.fail(2, 0);
        x.start(2);
        x.tick();
        Check.yes("2 comes", x.ticks(1000) < 1000);
        Check.same("both", x.count(6), 192 | 4 | 32);
        Scene.run(x, 149);
        x.tie(false);
        x.tick();
        x.tie(true);
        x.tick();
        Check.same("in one group again", x.count(6), 192 | 4 | 32);
        Scene.run(x, 198);
        Check.same("199 ticks", Scene.state(x, 2), Scene.ON);
        Scene.run(x, 1);
        Check.same("200 ticks", Scene.state(x, 2), Scene.UNLOADING);
    }

    /** "are ON in one group": a main set at the other side of the open tie is none. */
    private static void parallelNeedsOneGroup() {
        ShipPower x = Scene.shoreTaken(60000);
        x.fail(2, 0);
        x.tie(false);
        x.start(2);
        Scene.run(x, 300);
        Check.same("2 is ON", Scene.state(x, 2), Scene.ON);
        Check.same("5 is ON", Scene.state(x, 5), Scene.ON);
    }

    /** The shore, and sets 0 and 2, all ON in one group. */
    private static ShipPower withBoth() {
        ShipPower x = Scene.shoreTaken(60000);
        x.mode(3);
        Scene.asked(x, 0, 5, 10, 10);
        x.fail(0, 0);
        x.fail(2, 0);
        x.start(0);
        x.start(2);
        x.tick();
        Check.same("both come at once", x.ticks(1000) < 1000 ? x.count(6) : 0, 192 | 1 | 4 | 32);
        return x;
    }

    /** "all these sets 0 .. 3": those ON. Set 0 is UNLOADING already when the turn of 2 comes. */
    private static void parallelOnlyOfThoseThatAreOn() {
        ShipPower x = withBoth();
        x.fail(2, Scene.NODE_DEAD);
        x.stick(0, true);
        Scene.run(x, 199);
        Check.same("0 goes", Scene.state(x, 0), Scene.UNLOADING);
        Check.same("2 stays", Scene.state(x, 2), Scene.ON);
        x.fail(2, 0);
        Scene.run(x, 199);
        Check.same("199 ticks", Scene.state(x, 2), Scene.ON);
        Scene.run(x, 1);
        Check.same("200 ticks", Scene.state(x, 2), Scene.UNLOADING);
        Check.same("0 went once", Scene.kept(x, 6, 0), 1);
    }

    /** "If set 5 and sets 0 .. 3 are ON": one that is UNLOADING and cannot leave is not. */
    private static void parallelNotByUnloadingOnes() {
        ShipPower x = withBoth();
        x.trip(2);
        x.fail(2, Scene.NODE_DEAD);
        x.stick(0, true);
        Scene.run(x, 199);
        Check.same("0 goes", Scene.state(x, 0), Scene.UNLOADING);
        Scene.run(x, 100);
        x.fail(2, 0);
        x.start(2);
        Check.yes("2 comes again", x.ticks(1000) < 1000);
        Check.same("2 is ON again", Scene.state(x, 2), Scene.ON);
        Scene.run(x, 198);
        Check.same("199 ticks", Scene.state(x, 2), Scene.ON);
        Scene.run(x, 1);
        Check.same("200 ticks", Scene.state(x, 2), Scene.UNLOADING);
    }

    /** "with 200 .. and it is none": all being NODE DEAD, nothing goes, and 200 more are counted. */
    private static void parallelBeginsAnew() {
        ShipPower x = withBoth();
        x.fail(0, Scene.NODE_DEAD);
        x.fail(2, Scene.NODE_DEAD);
        Scene.run(x, 200);
        x.fail(0, 0);
        x.fail(2, 0);
        Scene.run(x, 198);
        Check.same("399 ticks: 0", Scene.state(x, 0), Scene.ON);
        Check.same("399 ticks: 2", Scene.state(x, 2), Scene.ON);
        Scene.run(x, 1);
        Check.same("400 ticks: 0", Scene.state(x, 0), Scene.UNLOADING);
        Check.same("400 ticks: 2", Scene.state(x, 2), Scene.UNLOADING);
    }

    private static void parallelWithNodeDead() {
        ShipPower x = Scene.onShore(60600);
        x.fail(0, 0);
        x.fail(2, 0);
        x.tie(false);
        x.start(0);
        x.start(2);
        int waited = 0;
        while (Scene.state(x, 0) != Scene.ON && waited < 1000) {
            x.tick();
            waited++;
        }
        x.fail(0, Scene.NODE_DEAD);
        Scene.run(x, 250);
        Check.same("a NODE DEAD one stays", Scene.state(x, 0), Scene.ON);
        Check.same("one of another group stays", Scene.state(x, 2), Scene.ON);
        x.fail(0, 0);
        Scene.run(x, 148);
        Check.same("counted anew from 200 on", Scene.state(x, 0), Scene.ON);
        Scene.run(x, 1);
        Check.same("399 ticks after it came", Scene.state(x, 0), Scene.UNLOADING);
        Check.same("the other group's stays", Scene.state(x, 2), Scene.ON);
    }
}
