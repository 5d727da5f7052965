/** Promises 8, 9, 10 and 16: fail, start, trip and set. */
public final class SetCallsTest {
    public static void main(String[] args) {
        fail();
        failOfNoSuchSet();
        failOfNoSuchKind();
        failMendsBlocked();
        failLeavesTheRest();
        start();
        startOnlyIfOff();
        trip();
        tripOnlyAtItsBus();
        tripWhileUnloading();
        whatIsTold();
        speedOnlyIfIdle();
        leftOnlyIfItCounts();
        triesOfASet();
        noSuchSet();
        noSuchWhat();
        Check.end("SetCallsTest");
    }

    /** "A set 0 .. 4 has a failure from now on" */
    private static void fail() {
        ShipPower x = new ShipPower();
        for (int set = 0; set < 5; set++) {
            for (int how = 4; how >= 0; how--) {
                Check.yes("fail(" + set + ", " + how + ")", x.fail(set, how));
                Check.same("is told", x.set(set, 8), how);
            }
        }
        Check.same("no events", x.count(5), 0);
    }

    /** "false if there is no such set" */
    private static void failOfNoSuchSet() {
        ShipPower x = new ShipPower();
        int[] wrong = {-1, 5, 6, Integer.MAX_VALUE, Integer.MIN_VALUE};
        for (int set : wrong) {
            for (int how = 0; how < 5; how++) {
                Check.no("set " + set, x.fail(set, how));
            }
        }
        Check.same("the shore has none", x.set(5, 8), 0);
    }

    /** ".. or failure" */
    private static void failOfNoSuchKind() {
        ShipPower x = new ShipPower();
        int[] wrong = {-1, 5, Integer.MAX_VALUE, Integer.MIN_VALUE};
        for (int how : wrong) {
            for (int set = 0; set < 5; set++) {
                x.fail(set, 3);
                Check.no("failure " + how, x.fail(set, how));
                Check.same("as it was", x.set(set, 8), 3);
            }
        }
    }

    private static void failMendsBlocked() {
        ShipPower x = Scene.with();
        x.fail(1, Scene.NO_START);
        x.start(1);
        Scene.run(x, 90);
        Check.same("blocked", Scene.state(x, 1), Scene.BLOCKED);
        Check.same("three tries", x.set(1, 7), 3);
        int events = x.count(5);
        Check.yes("another failure", x.fail(1, Scene.HIGH));
        Check.same("is no help", Scene.state(x, 1), Scene.BLOCKED);
        Check.same("tries stay", x.set(1, 7), 3);
        Check.no("it cannot be started", x.start(1));
        x.fail(1, 0);
        Check.same("none: it is OFF", Scene.state(x, 1), Scene.OFF);
        Check.same("tries 0", x.set(1, 7), 0);
        Check.same("no event of that", x.count(5), events);
        Check.yes("it can be started", x.start(1));
        x.fail(1, Scene.NO_START);
        Scene.run(x, 30);
        x.fail(1, 0);
        Check.same("tries stay if it is not blocked", x.set(1, 7), 1);
        Check.same("and so does its state", Scene.state(x, 1), Scene.STARTING);
        Scene.run(x, 30);
        Check.same("it comes", Scene.state(x, 1), Scene.ON);
        Check.same("tries 0 again", x.set(1, 7), 0);
    }

    /** "one that is BLOCKED and has 0 told is OFF": one in another state stays in it. */
    private static void failLeavesTheRest() {
        ShipPower x = Scene.running(0, 1);
        x.trip(1);
        x.start(3);
        for (int how = 4; how >= 0; how--) {
            x.fail(0, how);
            x.fail(1, how);
            x.fail(2, how);
            x.fail(3, how);
            Check.same("ON", Scene.state(x, 0), Scene.ON);
            Check.same("COOLING", x.set(1, 6), 200);
            Check.same("OFF", Scene.state(x, 2), Scene.OFF);
            Check.same("STARTING", x.set(3, 6), 30);
        }
    }

    /** "A set 0 .. 4 that is OFF .. false if it is not so" */
    private static void startOnlyIfOff() {
        ShipPower x = Scene.running(0, 1);
        Scene.run(x, 190);
        Check.same("UNLOADING", Scene.state(x, 1), Scene.UNLOADING);
        int events = x.count(5);
        Check.no("UNLOADING", x.start(1));
        Check.no("ON", x.start(0));
        x.trip(0);
        Check.no("COOLING", x.start(0));
        Check.same("one event, of the trip", x.count(5), events + 1);
        Check.same("ticks left", x.set(0, 6), 200);
        Scene.run(x, 200);
        Check.same("OFF", Scene.state(x, 0), Scene.OFF);
        Check.yes("OFF", x.start(0));
        Scene.run(x, 5);
        Check.no("STARTING", x.start(0));
        Check.same("it does not begin anew", x.set(0, 6), 25);
        Check.no("far off", x.start(Integer.MAX_VALUE));
        Check.no("far off below", x.start(Integer.MIN_VALUE));
    }

    private static void start() {
        ShipPower x = new ShipPower();
        for (int set = 0; set < 5; set++) {
            Check.yes("start(" + set + ")", x.start(set));
            Check.same("is STARTING", Scene.state(x, set), Scene.STARTING);
            Check.same("with 30 left", x.set(set, 6), 30);
            Check.same("an event", Scene.happened(x, 0), 500 + set);
            Check.no("not twice", x.start(set));
        }
        Check.same("five events", x.count(5), 5);
        Check.no("the shore", x.start(5));
        Check.no("set -1", x.start(-1));
        Check.no("set 6", x.start(6));

        ShipPower y = Scene.with();
        Check.yes("by hand, also with NODE DEAD", y.start(3));
        Scene.run(y, 30);
        Check.same("IDLE, for it closes nothing", Scene.state(y, 3), Scene.IDLE);
        Check.no("an IDLE one", y.start(3));

        ShipPower z = Scene.running(0);
        Check.no("one that is ON", z.start(0));
        z.trip(0);
        Check.no("one that is COOLING", z.start(0));
    }

    private static void trip() {
        ShipPower x = Scene.running(0, 1);
        Scene.asked(x, 0, 5, 100, 10);
        Scene.run(x, 1);
        Check.yes("trips", x.trip(1));
        Check.same("is COOLING", Scene.state(x, 1), Scene.COOLING);
        Check.same("with 200 left", x.set(1, 6), 200);
        Check.same("load", Scene.load(x, 1), 0);
        Check.same("weight", x.set(1, 5), 0);
        Check.same("the breaker is open", x.count(6), Scene.TIE_AND_FEEDER | 1);
        Check.same("an event", Scene.happened(x, 0), 310000 + 301);
        Check.no("not twice", x.trip(1));
        Check.no("one that is OFF", x.trip(3));
        Check.no("set -1", x.trip(-1));
        Check.no("set 6", x.trip(6));
        x.stick(0, true);
        Check.no("its breaker sticks", x.trip(0));
        Check.same("it stays ON", Scene.state(x, 0), Scene.ON);
        Check.same("that is counted", x.count(8), 1);
        x.stick(1, true);
        Check.no("one that is not at its bus", x.trip(1));
        Check.same("is not counted", x.count(8), 1);
        Scene.run(x, 199);
        Check.same("one tick left", x.set(1, 6), 1);
        Scene.run(x, 1);
        Check.same("OFF after 200", Scene.state(x, 1), Scene.OFF);

        ShipPower y = Scene.with();
        y.shore(true, 60000);
        y.takeShore();
        Check.no("the shore while it is IDLE", y.trip(5));
        y.tick();
        Check.yes("the shore", y.trip(5));
        Check.same("bus 0 is dead", y.bus(0, 5), 0);
    }

    /** "A set that is ON or UNLOADING trips .. false if it is not so" */
    private static void tripOnlyAtItsBus() {
        ShipPower x = Scene.with();
        Check.no("OFF", x.trip(0));
        x.start(0);
        Check.no("STARTING", x.trip(0));
        Scene.run(x, 30);
        Check.same("IDLE is its state", Scene.state(x, 0), Scene.IDLE);
        Check.no("IDLE", x.trip(0));
        x.fail(0, 0);
        x.tick();
        Check.yes("ON", x.trip(0));
        Check.no("COOLING", x.trip(0));
        x.fail(1, Scene.NO_START);
        x.start(1);
        Scene.run(x, 90);
        Check.same("BLOCKED is its state", Scene.state(x, 1), Scene.BLOCKED);
        Check.no("BLOCKED", x.trip(1));
        Check.same("one trip", Scene.kept(x, 3, 0), 1);
        Check.no("far off", x.trip(Integer.MAX_VALUE));
        Check.no("far off below", x.trip(Integer.MIN_VALUE));
        Check.same("nothing stuck", x.count(8), 0);
    }

    private static void tripWhileUnloading() {
        ShipPower x = Scene.running(0, 1);
        Scene.run(x, 195);
        Check.same("UNLOADING", Scene.state(x, 1), Scene.UNLOADING);
        x.stick(1, true);
        Check.no("it sticks", x.trip(1));
        Check.same("UNLOADING still", Scene.state(x, 1), Scene.UNLOADING);
        x.stick(1, false);
        Check.yes("trips", x.trip(1));
        Check.same("with 200 left, not 100", x.set(1, 6), 200);
        Check.no("open", Scene.isClosed(x, 1));
    }

    /** "(3 and 4: 0 if it is not IDLE ..)" */
    private static void speedOnlyIfIdle() {
        ShipPower x = Scene.running(0);
        Scene.run(x, 100);
        x.shore(true, 60001);
        x.takeShore();
        x.tick();
        Check.same("IDLE: speed", x.set(5, 3), 60001);
        Check.same("IDLE: phase", x.set(5, 4), 9);
        x.shore(false, 0);
        Check.same("OFF: no speed", x.set(5, 3), 0);
        Check.same("OFF: no phase", x.set(5, 4), 0);
        x.shore(true, 60700);
        x.takeShore();
        Check.yes("it comes", x.ticks(300) < 300);
        Check.same("ON: no speed", x.set(5, 3), 0);
        Check.same("ON: no phase", x.set(5, 4), 0);
    }

    /** "(.. 6: 0 if it is not STARTING or COOLING)" */
    private static void leftOnlyIfItCounts() {
        ShipPower x = Scene.with();
        x.fail(1, Scene.NO_START);
        x.start(0);
        x.start(1);
        Scene.run(x, 30);
        Check.same("IDLE", x.set(0, 6), 0);
        Scene.run(x, 60);
        Check.same("BLOCKED", x.set(1, 6), 0);
        x.fail(1, 0);
        Check.same("OFF", x.set(1, 6), 0);
        x.fail(0, 0);
        Scene.run(x, 1);
        Check.same("ON", x.set(0, 6), 0);
        x.trip(0);
        Scene.run(x, 1);
        Check.same("COOLING", x.set(0, 6), 199);
    }

    private static void triesOfASet() {
        ShipPower x = Scene.with();
        x.fail(3, Scene.NO_START);
        x.start(3);
        for (int tries = 0; tries < 3; tries++) {
            Scene.run(x, 29);
            Check.same("tries", x.set(3, 7), tries);
            Scene.run(x, 1);
            Check.same("one more", x.set(3, 7), tries + 1);
        }
    }

    private static void whatIsTold() {
        ShipPower x = Scene.running(0);
        Scene.burden(x, 1100);
        Scene.run(x, 1);
        Check.same("load", x.set(0, 1), 1100);
        Check.same("heat", x.set(0, 2), 100);
        Check.same("no speed if it is not IDLE", x.set(0, 3), 0);
        Check.same("nor phase", x.set(0, 4), 0);
        Check.same("weight", x.set(0, 5), 1000);
        Check.same("no ticks left", x.set(0, 6), 0);
        x.trip(0);
        Check.same("no heat once it left", x.set(0, 2), 0);
        Check.same("ticks left", x.set(0, 6), 200);

        ShipPower y = Scene.with();
        y.start(0);
        Scene.run(y, 31);
        Check.same("IDLE: no load", y.set(0, 1), 0);
        Check.same("IDLE: speed", y.set(0, 3), 59020);
        Check.same("IDLE: phase", y.set(0, 4), 171180);
        Check.same("IDLE: no weight", y.set(0, 5), 0);
        Check.same("IDLE: no ticks left", y.set(0, 6), 0);
    }

    /** "IndexOutOfBoundsException if there is no such set or what" */
    private static void noSuchSet() {
        ShipPower x = new ShipPower();
        int[] wrong = {-1, 6, Integer.MAX_VALUE, Integer.MIN_VALUE};
        for (int set : wrong) {
            for (int what = 0; what < 9; what++) {
                int one = what;
                Check.refused("set " + set, IndexOutOfBoundsException.class, () -> x.set(set, one));
            }
        }
    }

    private static void noSuchWhat() {
        ShipPower x = new ShipPower();
        int[] wrong = {-1, 9, Integer.MAX_VALUE, Integer.MIN_VALUE};
        for (int what : wrong) {
            for (int set = 0; set < 6; set++) {
                int one = set;
                Check.refused("what " + what, IndexOutOfBoundsException.class, () -> x.set(one, what));
            }
        }
    }
}
