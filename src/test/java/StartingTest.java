/** Step 1: sets that start, cool down and turn. */
public final class StartingTest {
    public static void main(String[] args) {
        starting();
        noStart();
        noStartMended();
        idleAtDeadBus();
        idleAtLiveBus();
        emergencyTurnsAt60000();
        Check.end("StartingTest");
    }

    private static void starting() {
        ShipPower x = Scene.with();
        x.start(2);
        for (int left = 29; left > 0; left--) {
            x.tick();
            Check.same("left", x.set(2, 6), left);
            Check.same("STARTING", Scene.state(x, 2), Scene.STARTING);
        }
        x.tick();
        Check.same("IDLE", Scene.state(x, 2), Scene.IDLE);
        Check.same("speed", x.set(2, 3), 59000);
        Check.same("phase", x.set(2, 4), 0);
        Check.same("an event", Scene.kept(x, 1, 2), 1);
    }

    private static void noStart() {
        ShipPower x = Scene.with();
        x.fail(0, Scene.NO_START);
        x.start(0);
        Scene.run(x, 30);
        Check.same("one try", x.set(0, 7), 1);
        Check.same("30 left again", x.set(0, 6), 30);
        Check.same("STARTING", Scene.state(x, 0), Scene.STARTING);
        Scene.run(x, 30);
        Check.same("two", x.set(0, 7), 2);
        Scene.run(x, 29);
        Check.same("STARTING still", Scene.state(x, 0), Scene.STARTING);
        Scene.run(x, 1);
        Check.same("three", x.set(0, 7), 3);
        Check.same("BLOCKED", Scene.state(x, 0), Scene.BLOCKED);
        Scene.run(x, 500);
        Check.same("for good", Scene.state(x, 0), Scene.BLOCKED);
    }

    private static void noStartMended() {
        ShipPower x = Scene.with();
        x.fail(0, Scene.NO_START);
        x.start(0);
        Scene.run(x, 60);
        x.fail(0, Scene.NODE_DEAD);
        Scene.run(x, 29);
        Check.same("two tries", x.set(0, 7), 2);
        Scene.run(x, 1);
        Check.same("IDLE: tries 0", x.set(0, 7), 0);
        Check.same("IDLE", Scene.state(x, 0), Scene.IDLE);
    }

    private static void idleAtDeadBus() {
        ShipPower x = Scene.with();
        x.start(0);
        Scene.run(x, 30);
        int speed = 59000;
        int phase = 0;
        for (int i = 0; i < 60; i++) {
            x.tick();
            speed = Math.min(60000, speed + 20);
            phase = (phase + 9 * speed) % 180000;
            Check.same("speed", x.set(0, 3), speed);
            Check.same("phase", x.set(0, 4), phase);
        }
        Check.same("60000 at last", speed, 60000);
    }

    /** It follows the frequency of the tick before, and closes once they are in step. */
    private static void idleAtLiveBus() {
        ShipPower x = Scene.running(0);
        Scene.run(x, 60);
        x.fail(1, 0);
        x.start(1);
        // Nearly round the circle ahead of the ticks that are looked at one by one.
        Scene.run(x, 30 + 80);
        int speed = x.set(1, 3);
        int phase = x.set(1, 4);
        int waited = 0;
        boolean inStep = false;
        while (!inStep && waited < 90) {
            int frequency = x.bus(0, 0);
            int busPhase = x.bus(0, 1);
            Check.same("speed", x.set(1, 3), speed);
            Check.same("phase", x.set(1, 4), phase);
            speed += Math.max(-20, Math.min(20, frequency + 100 - speed));
            phase = (phase + 9 * speed) % 180000;
            int way = Math.abs(phase - busPhase);
            inStep = Math.abs(speed - frequency) <= 150 && Math.min(way, 180000 - way) <= 5000;
            x.tick();
            waited++;
            Check.same("ON just if in step", Scene.state(x, 1), inStep ? Scene.ON : Scene.IDLE);
        }
        Check.yes("not at once, but some time", waited > 10 && inStep);
        Check.same("weight", x.set(1, 5), 1000);
        Check.same("the bus keeps its own", x.bus(0, 0), 60600);
    }

    private static void emergencyTurnsAt60000() {
        ShipPower x = Scene.running(0);
        Scene.run(x, 60);
        x.fail(4, 0);
        x.start(4);
        Scene.run(x, 30 + 49);
        Check.same("on its way", x.set(4, 3), 59980);
        Scene.run(x, 30);
        Check.same("not 60700", x.set(4, 3), 60000);
        Check.same("IDLE while bus 2 is live", Scene.state(x, 4), Scene.IDLE);
    }
}
