/** Promise 18 and step 12: events, all kinds of them, the last 32. */
public final class EventTest {
    public static void main(String[] args) {
        notKept();
        noSuchWhat();
        lastOnes();
        thirtyOneTwoThree();
        roundAndRound();
        ticksOfEvents();
        lifeOfASet();
        retriesAreNone();
        Check.end("EventTest");
    }

    private static void bad(ShipPower x, int k, int what) {
        Check.refused("event(" + k + ", " + what + ")", IndexOutOfBoundsException.class, () -> x.event(k, what));
    }

    /** "IndexOutOfBoundsException if it is not kept" */
    private static void notKept() {
        ShipPower x = new ShipPower();
        bad(x, 0, 0);
        x.start(3);
        Check.same("its tick", x.event(0, 0), 0);
        Check.same("what it was", x.event(0, 1), 5);
        Check.same("whose", x.event(0, 2), 3);
        int[] wrong = {-1, 1, 31, 32, Integer.MAX_VALUE, Integer.MIN_VALUE};
        for (int k : wrong) {
            for (int what = 0; what < 3; what++) {
                bad(x, k, what);
            }
        }
    }

    /** "or there is no such what" */
    private static void noSuchWhat() {
        ShipPower x = new ShipPower();
        x.start(3);
        int[] wrong = {-1, 3, Integer.MAX_VALUE, Integer.MIN_VALUE};
        for (int what : wrong) {
            bad(x, 0, what);
        }
    }

    private static void lastOnes() {
        ShipPower x = Scene.running(0);
        int before = x.count(5);
        for (int i = 0; i < 40; i++) {
            Scene.asked(x, 0, 5, 1, 10);
        }
        Check.same("all are counted", x.count(5), before + 40);
        for (int k = 0; k < 32; k++) {
            Check.same("event " + k, Scene.happened(x, k), 300000 + 700 + 39 - k);
        }
        bad(x, 32, 0);
    }

    /** "EVENTS are kept, the last 32" */
    private static void thirtyOneTwoThree() {
        ShipPower x = Scene.onShore(60000);
        int before = x.count(5);
        int light = x.consumer(0, 5, 1, 10);
        for (int i = before; i < 31; i++) {
            x.ask(light, false);
            x.ask(light, true);
        }
        Check.same("31", x.count(5), 31);
        Check.same("the first of 31", Scene.happened(x, 30), 105);
        bad(x, 31, 0);
        x.ask(light, false);
        x.ask(light, true);
        Check.same("the first of 32", Scene.happened(x, 31), 105);
        bad(x, 32, 0);
        x.ask(light, false);
        x.ask(light, true);
        Check.same("33", x.count(5), 33);
        Check.same("the second of 33", Scene.happened(x, 31), 10000 + 205);
        bad(x, 32, 0);
    }

    /** More than twice as many as are kept. */
    private static void roundAndRound() {
        ShipPower x = Scene.onShore(60000);
        int[] all = new int[10];
        for (int i = 0; i < 10; i++) {
            all[i] = x.consumer(0, 5, 1, 10);
        }
        for (int i = 0; i < 75; i++) {
            x.ask(all[i % 10], false);
            x.ask(all[i % 10], true);
        }
        for (int k = 0; k < 32; k++) {
            Check.same("event " + k, Scene.happened(x, k), 10000 + 700 + (74 - k) % 10);
        }
    }

    /** "the tick (between ticks: that of the latest one)" */
    private static void ticksOfEvents() {
        ShipPower x = new ShipPower();
        x.start(1);
        Check.same("ahead of the first tick", x.event(0, 0), 0);
        Scene.run(x, 7);
        x.start(2);
        Check.same("after tick 7", x.event(0, 0), 7);
        Scene.run(x, 23);
        Check.same("in tick 30", Scene.kept(x, 2, 1), 1);
        Check.same("its number", x.event(0, 0), 30);
    }

    private static void lifeOfASet() {
        ShipPower x = Scene.with(0, 1);
        x.start(0);
        x.start(1);
        Scene.run(x, 30);
        int[] due = {
            300000 + 1202, // the ladder, a main bus being live
            300000 + 201, // ON
            300000 + 200,
            300000 + 101, // IDLE
            300000 + 100,
            200000 + 1201, // the ladder, in the dark
            501, // STARTING
            500,
        };
        Check.same("so many", x.count(5), due.length);
        for (int k = 0; k < due.length; k++) {
            Check.same("event " + k, Scene.happened(x, k), due[k]);
        }
        // Looks in ticks 40, 60, .. 220.
        Scene.run(x, 190);
        Check.same("UNLOADING", Scene.happened(x, 0), 220 * 10000 + 601);
        Check.same("the ladder's end", Scene.happened(x, 1), 90 * 10000 + 1200);
        Scene.run(x, 19);
        Check.same("COOLING", Scene.happened(x, 0), 239 * 10000 + 301);
        int events = x.count(5);
        Scene.run(x, 100);
        Check.same("OFF is none", x.count(5), events);
        Check.same("though it is", Scene.state(x, 1), Scene.OFF);
    }

    private static void retriesAreNone() {
        ShipPower x = Scene.with();
        x.fail(0, Scene.NO_START);
        x.start(0);
        Scene.run(x, 90);
        Check.same("STARTING once", Scene.kept(x, 5, 0), 1);
        Check.same("BLOCKED", Scene.happened(x, 0), 90 * 10000 + 400);
    }
}
