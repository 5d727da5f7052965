/** Step 1: sets that start, cool down and turn. */
public final class StartingTest {
    public static void main(String[] args) {
        starting();
        noStart();
        noStartMended();
        for (int how = 2; how < 5; how++) {
            otherFailuresStart(how);
        }
        coolingAfterATrip();
        coolingAfterUnloading();
        coolingOfTheEmergencySet();
        idleAtDeadBus();
        speedFalls();
        for (int delay = 60; delay < 160; delay++) {
            idleAtLiveBus(delay);
        }
        phaseBeginsAnew();
        emergencyTurnsAt60000();
        Check.end("StartingTest");
    }

    private static void starting() {
        ShipPower x = Scene.with();
        x.start(2);
        for (int left = 29; left > 0; left--) {
            x.tick();
            Check.same("left", x.set(2, 6), left);
            Check.same("STARTING", Scene.state(x, 2), Scene.STARTING);
        }
        x.tick();
        Check.same("IDLE", Scene.state(x, 2), Scene.IDLE);
        Check.same("speed", x.set(2, 3), 59000);
        Check.same("phase", x.set(2, 4), 0);
        Check.same("an event", Scene.kept(x, 1, 2), 1);
    }

    private static void noStart() {
        ShipPower x = Scene.with();
        x.fail(0, Scene.NO_START);
        x.start(0);
        Scene.run(x, 30);
        Check.same("one try", x.set(0, 7), 1);
        Check.same("30 left again", x.set(0, 6), 30);
        Check.same("STARTING", Scene.state(x, 0), Scene.STARTING);
        Scene.run(x, 30);
        Check.same("two", x.set(0, 7), 2);
        Scene.run(x, 29);
        Check.same("STARTING still", Scene.state(x, 0), Scene.STARTING);
        Scene.run(x, 1);
        Check.same("three", x.set(0, 7), 3);
        Check.same("BLOCKED", Scene.state(x, 0), Scene.BLOCKED);
        Scene.run(x, 500);
        Check.same("for good", Scene.state(x, 0), Scene.BLOCKED);
    }

    private static void noStartMended() {
        ShipPower x = Scene.with();
        x.fail(0, Scene.NO_START);
        x.start(0);
        Scene.run(x, 60);
        x.fail(0, Scene.NODE_DEAD);
        Scene.run(x, 29);
        Check.same("two tries", x.set(0, 7), 2);
        Scene.run(x, 1);
        Check.same("IDLE: tries 0", x.set(0, 7), 0);
        Check.same("IDLE", Scene.state(x, 0), Scene.IDLE);
    }

    /** "without that failure: IDLE" */
    private static void otherFailuresStart(int how) {
        ShipPower x = Scene.with();
        x.fail(1, how);
        x.start(1);
        Scene.run(x, 29);
        Check.same("STARTING with failure " + how, Scene.state(x, 1), Scene.STARTING);
        Scene.run(x, 1);
        Check.same("IDLE with failure " + how, Scene.kept(x, 1, 1), 1);
        Check.same("no try with failure " + how, x.set(1, 7), 0);
    }

    private static void coolsFor(String what, ShipPower x, int set, int ticks) {
        Check.same(what + ": COOLING", Scene.state(x, set), Scene.COOLING);
        Check.same(what + ": left", x.set(set, 6), ticks);
        Scene.run(x, ticks - 1);
        Check.same(what + ": one tick left", x.set(set, 6), 1);
        Check.same(what + ": COOLING still", Scene.state(x, set), Scene.COOLING);
        Scene.run(x, 1);
        Check.same(what + ": OFF", Scene.state(x, set), Scene.OFF);
        Check.same(what + ": nothing left", x.set(set, 6), 0);
    }

    /** "COOLING: one tick less; with 0 left OFF." */
    private static void coolingAfterATrip() {
        ShipPower x = Scene.running(0, 2);
        x.trip(2);
        x.fail(2, Scene.NODE_DEAD);
        coolsFor("trip", x, 2, 200);
    }

    private static void coolingAfterUnloading() {
        ShipPower x = Scene.running(0, 1);
        Scene.run(x, 209);
        coolsFor("unloading", x, 1, 100);
    }

    private static void coolingOfTheEmergencySet() {
        ShipPower x = Scene.with(4);
        x.start(4);
        Scene.run(x, 30);
        x.fail(0, 0);
        x.start(0);
        Scene.run(x, 30 + 99);
        coolsFor("emergency", x, 4, 100);
    }

    /** "the speed goes to the frequency of its bus and 100 .. by at most 20": down, and the last bit. */
    private static void speedFalls() {
        ShipPower x = Scene.running(0);
        x.start(1);
        Scene.run(x, 200);
        Check.same("above the bus", x.set(1, 3), 60700);
        // 1200 * 497 / 1000 is 596: the bus goes to 60004, and 60104 is 29 times 20 and 16 below.
        Scene.burden(x, 497);
        Scene.run(x, 1);
        Check.same("the bus as it was ahead of this", x.set(1, 3), 60700);
        Scene.run(x, 1);
        Check.same("20 less", x.set(1, 3), 60680);
        Scene.run(x, 28);
        Check.same("the bus", x.bus(0, 0), 60004);
        Check.same("29 times 20", x.set(1, 3), 60120);
        Scene.run(x, 1);
        Check.same("16 less", x.set(1, 3), 60104);
        Scene.run(x, 1);
        Check.same("no further", x.set(1, 3), 60104);
        x.trip(0);
        Scene.run(x, 6);
        Check.same("to 60000 at a dead bus", x.set(1, 3), 60000);
    }

    private static void idleAtDeadBus() {
        ShipPower x = Scene.with();
        x.start(0);
        Scene.run(x, 30);
        int speed = 59000;
        int phase = 0;
        for (int i = 0; i < 60; i++) {
            x.tick();
            speed = Math.min(60000, speed + 20);
            phase = (phase + 9 * speed) % 180000;
            Check.same("speed", x.set(0, 3), speed);
            Check.same("phase", x.set(0, 4), phase);
        }
        Check.same("60000 at last", speed, 60000);
    }

    /** It follows the bus and closes once they are in step: when, is worked out here tick by tick. */
    private static void idleAtLiveBus(int delay) {
        ShipPower x = Scene.running(0);
        Scene.run(x, delay);
        Check.same("the bus runs at", x.bus(0, 0), 60600);
        x.fail(1, 0);
        x.start(1);
        int due = ticksUntilInStep(x.bus(0, 1));
        Scene.run(x, 31);
        if (due > 31) {
            Check.same("speed after a tick of IDLE", x.set(1, 3), 59020);
            Check.same("phase after a tick of IDLE", x.set(1, 4), 9 * 59020 % 180000);
            Check.same("ticks from start to ON, delay " + delay, 31 + x.ticks(900), due);
        }
        Check.same("ON", Scene.state(x, 1), Scene.ON);
        Check.same("weight", x.set(1, 5), 1000);
        Check.same("the bus keeps its own", x.bus(0, 0), 60600);
    }

    private static int ticksUntilInStep(int busPhaseNow) {
        int speed = 59000;
        int phase = 0;
        int busPhase = (int) ((busPhaseNow + 29L * 9 * 60600) % 180000);
        int ticks = 30;
        while (Math.abs(speed - 60600) > 150 || angle(phase, busPhase) > 5000) {
            busPhase = (busPhase + 9 * 60600) % 180000;
            speed = Math.min(60700, speed + 20);
            phase = (phase + 9 * speed) % 180000;
            ticks++;
        }
        return ticks;
    }

    private static int angle(int a, int b) {
        int way = Math.abs(a - b);
        return Math.min(way, 180000 - way);
    }

    private static void phaseBeginsAnew() {
        ShipPower x = Scene.with();
        x.start(0);
        Scene.run(x, 37);
        x.fail(0, 0);
        Scene.run(x, 1);
        Check.same("ON", Scene.state(x, 0), Scene.ON);
        x.trip(0);
        Scene.run(x, 200);
        x.fail(0, Scene.NODE_DEAD);
        Check.yes("started again", x.start(0));
        Scene.run(x, 30);
        Check.same("speed", x.set(0, 3), 59000);
        Check.same("phase", x.set(0, 4), 0);
    }

    private static void emergencyTurnsAt60000() {
        ShipPower x = Scene.running(0);
        Scene.run(x, 60);
        x.fail(4, 0);
        x.start(4);
        Scene.run(x, 30 + 49);
        Check.same("on its way", x.set(4, 3), 59980);
        Scene.run(x, 30);
        Check.same("not 60700", x.set(4, 3), 60000);
        Check.same("IDLE while bus 2 is live", Scene.state(x, 4), Scene.IDLE);
    }
}
