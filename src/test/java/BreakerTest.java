/** Promises 11 and 14: stick and tie; how the tie closes (step 2). */
public final class BreakerTest {
    public static void main(String[] args) {
        stick();
        stickNone();
        stickOneAlone();
        tieIsOpened();
        tieIsOpenAlready();
        tieIsClosedAlready();
        tieIsOrdered();
        tieIsOrderedAlready();
        tieOrderIsGone();
        tieSticksWhenToOpen();
        tieSticksWhenOrdered();
        tieOfDeadSides();
        tieOfOneLiveSide();
        tieOfLiveSides();
        tieAndEmergency();
        tieThatSticks();
        Check.end("BreakerTest");
    }

    private static void stick() {
        ShipPower x = new ShipPower();
        for (int breaker = 0; breaker < 9; breaker++) {
            Check.yes("sticks " + breaker, x.stick(breaker, true));
            Check.yes("again " + breaker, x.stick(breaker, true));
            Check.yes("no more " + breaker, x.stick(breaker, false));
            Check.yes("nor before " + breaker, x.stick(breaker, false));
        }
        Check.yes("the tie opens", x.tie(false));
    }

    /** "false if there is none such" */
    private static void stickNone() {
        ShipPower x = new ShipPower();
        int[] wrong = {-1, 9, 32, 38, Integer.MAX_VALUE, Integer.MIN_VALUE};
        for (int breaker : wrong) {
            Check.no("breaker " + breaker, x.stick(breaker, true));
            Check.no("not breaker " + breaker, x.stick(breaker, false));
        }
        Check.yes("the tie, whose bit is that of 38, opens", x.tie(false));
    }

    private static void stickOneAlone() {
        ShipPower x = Scene.running(0, 1);
        x.stick(0, true);
        Check.yes("another one opens", x.trip(1));
        Check.no("this one does not", x.trip(0));
        x.stick(1, true);
        x.stick(1, false);
        Check.no("nor after that", x.trip(0));
    }

    /** "The tie is opened .. true" */
    private static void tieIsOpened() {
        ShipPower x = new ShipPower();
        Check.yes("opened", x.tie(false));
        Check.same("breaker 6 is open", x.count(6), 128);
        Check.same("an event", Scene.happened(x, 0), 1106);
        Check.same("no order", x.count(7), 0);
    }

    /** "false if it is so already": open. */
    private static void tieIsOpenAlready() {
        ShipPower x = new ShipPower();
        x.tie(false);
        Check.no("open already", x.tie(false));
        Check.same("one event", x.count(5), 1);
        x.stick(6, true);
        Check.no("open already, and sticks", x.tie(false));
        Check.same("it was not to open", x.count(8), 0);
    }

    /** "false if it is so already": closed. */
    private static void tieIsClosedAlready() {
        ShipPower x = new ShipPower();
        Check.no("closed already", x.tie(true));
        Check.same("no order of that", x.count(7), 0);
        x.stick(6, true);
        Check.no("closed already, and sticks", x.tie(true));
        Check.same("it was not to close", x.count(8), 0);
    }

    /** "or its closing is ORDERED": it is, and the tie is open until a tick. */
    private static void tieIsOrdered() {
        ShipPower x = new ShipPower();
        x.tie(false);
        int events = x.count(5);
        Check.yes("ordered", x.tie(true));
        Check.same("is told", x.count(7), 1);
        Check.same("open as yet", x.count(6), 128);
        Check.same("no event of that", x.count(5), events);
    }

    /** "false if it is so already": ordered. */
    private static void tieIsOrderedAlready() {
        ShipPower x = new ShipPower();
        x.tie(false);
        x.tie(true);
        Check.no("ordered already", x.tie(true));
        Check.same("ordered still", x.count(7), 1);
        Check.same("it closes", x.tick(), 192);
    }

    /** "(with false an order is gone)" */
    private static void tieOrderIsGone() {
        ShipPower x = new ShipPower();
        x.tie(false);
        x.tie(true);
        Check.no("open already", x.tie(false));
        Check.same("the order is gone", x.count(7), 0);
        Scene.run(x, 5);
        Check.same("it stays open", x.count(6), 128);
        Check.yes("it may be ordered anew", x.tie(true));
    }

    /** "or sticks when it is to be opened" */
    private static void tieSticksWhenToOpen() {
        ShipPower x = new ShipPower();
        x.stick(6, true);
        Check.no("sticks", x.tie(false));
        Check.same("is counted", x.count(8), 1);
        Check.same("closed", x.count(6), 192);
        Check.same("no event", x.count(5), 0);
        x.stick(6, false);
        Check.yes("opens the next time", x.tie(false));
    }

    /** An order may be given while it sticks: it is only to close in a tick. */
    private static void tieSticksWhenOrdered() {
        ShipPower x = new ShipPower();
        x.tie(false);
        x.stick(6, true);
        Check.yes("ordered", x.tie(true));
        Check.same("not counted", x.count(8), 0);
    }

    private static void tieOfDeadSides() {
        ShipPower x = new ShipPower();
        x.tie(false);
        x.tie(true);
        Check.same("closes", x.tick(), 192);
        Check.same("the order is gone", x.count(7), 0);
        Check.same("an event", Scene.happened(x, 0), 11006);
    }

    private static void tieOfOneLiveSide() {
        for (int live = 0; live < 2; live++) {
            ShipPower x = Scene.with(2 * live);
            x.tie(false);
            x.start(2 * live);
            Scene.run(x, 40);
            Check.same("one side is dead", x.bus(1 - live, 5), 0);
            int frequency = x.bus(live, 0);
            x.tie(true);
            x.tick();
            Check.same("one group", x.bus(1, 2), 0);
            Check.same("live by that", x.bus(1 - live, 5), 1);
            Check.same("the live side's frequency", x.bus(1 - live, 0), frequency + 40);
            Check.same("and phase", x.bus(1 - live, 1), x.bus(live, 1));
        }
    }

    private static void tieOfLiveSides() {
        ShipPower x = Scene.with(0, 2);
        x.tie(false);
        x.start(0);
        x.start(2);
        Scene.run(x, 30);
        // Nearly 60600 against nearly 60540: on both sides the phases drift apart and meet again.
        Scene.asked(x, 1, 5, 50, 10);
        Scene.run(x, 300);
        x.tie(true);
        int waited = 0;
        boolean closed = false;
        while (!closed && waited < 90) {
            boolean due = Math.abs(x.bus(0, 0) - x.bus(1, 0)) <= 150 && angle(x.bus(0, 1), x.bus(1, 1)) <= 5000;
            x.tick();
            waited++;
            closed = Scene.isClosed(x, 6);
            Check.same("closes just when they are in step", closed ? 1 : 0, due ? 1 : 0);
        }
        Check.yes("it had to wait", waited > 10);
        Check.same("all have bus 0's frequency", x.bus(1, 0), x.bus(0, 0));
        Check.same("60600 less the way to 60570", x.bus(0, 0), 60570);
        Check.same("the order is gone", x.count(7), 0);

        ShipPower far = Scene.with(0, 2);
        far.tie(false);
        far.start(0);
        far.start(2);
        Scene.run(far, 30);
        Scene.asked(far, 1, 5, 126, 10);
        Scene.run(far, 100);
        far.tie(true);
        Check.same("151 apart: not ever", far.bus(0, 0) - far.bus(1, 0), 151);
        Scene.run(far, 1000);
        Check.no("still open", Scene.isClosed(far, 6));
        Check.same("still ordered", far.count(7), 1);
        Scene.asked(far, 0, 5, 1, 10);
        Scene.run(far, 1);
        Check.same("150 apart", far.bus(0, 0) - far.bus(1, 0), 150);
        Scene.run(far, 140);
        Check.yes("closed", Scene.isClosed(far, 6));
    }

    /** Bus 2 lives by set 4, bus 1 by set 2: the tie hands on what bus 1 has. */
    private static void tieAndEmergency() {
        ShipPower x = Scene.with(2, 4);
        x.tie(false);
        x.start(4);
        Scene.run(x, 20);
        x.start(2);
        Scene.run(x, 40);
        Check.yes("they differ", x.bus(1, 0) != x.bus(2, 0));
        int frequency = x.bus(1, 0);
        x.tie(true);
        Scene.run(x, 1);
        Check.same("bus 0 runs with bus 1", x.bus(0, 0), Math.min(60600, frequency + 40));
        Check.same("bus 2 is apart", x.bus(2, 2), 2);
    }

    private static int angle(int a, int b) {
        int way = Math.abs(a - b);
        return Math.min(way, 180000 - way);
    }

    private static void tieThatSticks() {
        ShipPower x = new ShipPower();
        x.tie(false);
        x.tie(true);
        x.stick(6, true);
        Scene.run(x, 3);
        Check.same("was to close each tick", x.count(8), 3);
        Check.same("the order stays", x.count(7), 1);
        x.stick(6, false);
        Scene.run(x, 1);
        Check.same("closes", x.count(6), 192);
    }
}
