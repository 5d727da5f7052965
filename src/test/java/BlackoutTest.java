/** Step 11: blackouts and the ladder out of them. */
public final class BlackoutTest {
    public static void main(String[] args) {
        whoIsCalled();
        whoIsCalledByOrder();
        whoCannotBeCalled();
        storedAndBroughtBack();
        aClassEachTenTicks();
        ladderEndsBelowClass0();
        darkFrom20On();
        firstTwoOfAll();
        emergencyIsNotEnough();
        emergencyIsNotDark();
        oneMainBusIsEnough();
        darkIsBrokenOff();
        classesGoOnInTheDark();
        waitingOnesWaitOn();
        onlyConnectedOnesAreStored();
        emergencyThatIsNotOff();
        emergencyWithNodeDead();
        onlyOneClauseInATick();
        storedWithoutALiveGroup();
        Check.end("BlackoutTest");
    }

    private static void lastEvents(String what, ShipPower x, int... latestFirst) {
        for (int k = 0; k < latestFirst.length; k++) {
            Check.same(what + ": event " + k, Scene.happened(x, k), latestFirst[k]);
        }
    }

    /** The manager calls 0 in that tick: so the first two that are OFF are 1 and 2. */
    private static void whoIsCalled() {
        ShipPower x = new ShipPower();
        Scene.run(x, 19);
        Check.same("19 ticks", x.count(1), 0);
        Check.same("no event", x.count(5), 0);
        Scene.run(x, 1);
        Check.same("20 ticks", x.count(1), 1);
        Check.same("the ladder", x.count(2), 1);
        lastEvents("first", x, 201201, 200502, 200501, 200504, 200500);
        Check.same("no more", x.count(5), 5);
        Check.same("3 is not called", Scene.state(x, 3), Scene.OFF);
        Check.same("30 left", x.set(4, 6), 30);
    }

    private static void whoIsCalledByOrder() {
        ShipPower x = new ShipPower();
        x.order(3 | 1 << 2 | 0 << 4 | 2 << 6);
        Scene.run(x, 20);
        lastEvents("order", x, 201201, 200500, 200501, 200504, 200503);
    }

    private static void whoCannotBeCalled() {
        ShipPower x = Scene.with(3);
        x.fail(1, Scene.NO_START);
        Scene.run(x, 20);
        lastEvents("NODE DEAD ones are passed over", x, 201201, 200503, 200501);
        Check.same("no more", x.count(5), 3);
        Scene.run(x, 19);
        Check.same("one blackout", x.count(1), 1);

        ShipPower none = Scene.with();
        Scene.run(none, 500);
        Check.same("one blackout while the ladder is at 1", none.count(1), 1);
        Check.same("at 1", none.count(2), 1);
        Check.same("one event", none.count(5), 1);
    }

    /** Dark from tick 6 to tick 25; in the look of tick 20 nothing can be called. */
    private static void firstTwoOfAll() {
        ShipPower x = Scene.with();
        x.shore(true, 60000);
        x.takeShore();
        Scene.run(x, 5);
        x.shore(false, 0);
        Scene.run(x, 15);
        for (int set = 0; set < 5; set++) {
            x.fail(set, 0);
        }
        Scene.run(x, 4);
        Check.same("nothing yet", x.count(1), 0);
        Scene.run(x, 1);
        lastEvents("first two", x, 251201, 250501, 250500, 250504);
    }

    /** Set 4 stands by and takes bus 2 in the tick after the trip. */
    private static void emergencyIsNotDark() {
        ShipPower x = Scene.running(0);
        x.fail(4, 0);
        x.start(4);
        Scene.run(x, 70);
        Check.same("the first ladder is done", x.count(2), 0);
        x.trip(0);
        Scene.run(x, 60);
        Check.same("bus 2 is live", x.bus(2, 5), 1);
        Check.same("no other blackout", x.count(1), 1);
    }

    private static void oneMainBusIsEnough() {
        ShipPower x = Scene.with(2);
        x.tie(false);
        x.start(2);
        x.stick(7, true);
        Scene.run(x, 30);
        Check.same("bus 1 alone", x.count(6), 128 | 4);
        Check.same("the ladder is at 2", x.count(2), 2);
        Scene.run(x, 100);
        Check.same("one blackout", x.count(1), 1);
    }

    private static void storedAndBroughtBack() {
        ShipPower x = Scene.running(0);
        int c5 = Scene.asked(x, 0, 5, 10, 20);
        int c0 = Scene.asked(x, 2, 0, 10, 10);
        int atBus1 = Scene.asked(x, 1, 3, 10, 10);
        Scene.run(x, 59);
        Check.same("tick 89: the first ladder", x.count(2), 2);
        Scene.run(x, 1);
        Check.same("tick 90: its end", x.count(2), 0);
        Scene.run(x, 10);
        x.trip(0);
        Scene.run(x, 19);
        Check.same("dark for 19 ticks", x.look(c5, 0), Scene.CONNECTED);
        Scene.run(x, 1);
        Check.same("dark for 20", x.look(c5, 0), Scene.STORED);
        Check.same("no demand", x.bus(0, 3), 0);
        lastEvents("stored", x, 1200000 + 1201, 1200000 + 902, 1200000 + 901, 1200000 + 900);
        Check.same("two blackouts", x.count(1), 2);
        // Set 0 is OFF and called in tick 300, ON in 330.
        x.tie(false);
        Scene.run(x, 209);
        Check.same("tick 329", x.count(2), 1);
        Scene.run(x, 1);
        Check.same("tick 330", x.count(2), 2);
        Check.same("no class in the tick of that step", x.look(c5, 0), Scene.STORED);
        Scene.run(x, 9);
        Check.same("tick 339", x.look(c5, 0), Scene.STORED);
        Scene.run(x, 1);
        Check.same("tick 340: class 5", x.look(c5, 0), Scene.WAITING);
        Scene.run(x, 1);
        Check.same("tick 341", x.look(c5, 0), Scene.CONNECTED);
        Check.same("with its first demand", x.look(c5, 1), 20);
        Scene.run(x, 48);
        Check.same("tick 389: class 0 is the last", x.look(c0, 0), Scene.STORED);
        Check.same("the ladder", x.count(2), 2);
        Scene.run(x, 1);
        Check.same("tick 390", x.look(c0, 0), Scene.WAITING);
        Check.same("the ladder is done", x.count(2), 0);
        Check.same("the event", Scene.happened(x, 0), 390 * 10000 + 1200);
        Scene.run(x, 1);
        Check.same("tick 391", x.look(c0, 0), Scene.CONNECTED);
        Check.same("its bus is dead", x.look(atBus1, 0), Scene.STORED);
        Check.same("two blackouts still", x.count(1), 2);
    }

    /** One STORED consumer of each class, the shore back in tick 33: the ladder is at 2, and class 5 is the first. */
    private static ShipPower sixStored() {
        ShipPower x = Scene.onShore(60000);
        for (int cls = 0; cls < 6; cls++) {
            Scene.asked(x, 0, cls, 10, 10);
        }
        x.shore(false, 0);
        Scene.run(x, 31);
        x.shore(true, 60000);
        x.takeShore();
        x.tick();
        Check.same("at 2 in tick 33", x.count(0) * 10 + x.count(2), 332);
        return x;
    }

    /** "in each tick whose number is a multiple of 10 .. the class is one less" */
    private static void aClassEachTenTicks() {
        ShipPower x = sixStored();
        Scene.run(x, 6);
        for (int cls = 5; cls >= 0; cls--) {
            Check.same("class " + cls + " a tick ahead", x.look(cls, 0), Scene.STORED);
            x.tick();
            Check.same("class " + cls + " in tick " + x.count(0), x.look(cls, 0), Scene.WAITING);
            Scene.run(x, 9);
            Check.same("class " + cls + " then", x.look(cls, 0), Scene.CONNECTED);
        }
    }

    /** "below 0 the ladder is at 0": with class 0, in tick 90. */
    private static void ladderEndsBelowClass0() {
        ShipPower x = sixStored();
        Scene.run(x, 56);
        Check.same("tick 89", x.count(2), 2);
        x.tick();
        Check.same("tick 90", x.count(2), 0);
        Check.same("the event", Scene.happened(x, 0), 90 * 10000 + 1200);
    }

    /** "From 20 on" */
    private static void darkFrom20On() {
        ShipPower x = Scene.onShore(60000);
        x.shore(false, 0);
        Scene.run(x, 19);
        Check.same("19 ticks", x.count(1), 0);
        Scene.run(x, 1);
        Check.same("20 ticks", x.count(1), 1);
        Scene.run(x, 40);
        Check.same("once", x.count(1), 1);
    }

    private static void emergencyIsNotEnough() {
        ShipPower x = Scene.with(4);
        Scene.run(x, 50);
        Check.same("bus 2 is live", x.bus(2, 5), 1);
        Scene.run(x, 100);
        Check.same("but no main bus", x.count(2), 1);
        x.fail(0, 0);
        x.start(0);
        Scene.run(x, 30);
        Check.same("now it is", x.count(2), 2);
    }

    private static void darkIsBrokenOff() {
        ShipPower x = Scene.with();
        Scene.run(x, 15);
        x.shore(true, 60000);
        x.takeShore();
        Scene.run(x, 1);
        x.shore(false, 0);
        Scene.run(x, 19);
        Check.same("19 ticks anew", x.count(1), 0);
        Scene.run(x, 1);
        Check.same("20 ticks", x.count(1), 1);
    }

    /** Live for one tick only: all classes pass, and the next blackout comes at once. */
    private static void classesGoOnInTheDark() {
        ShipPower x = Scene.with();
        Scene.run(x, 20);
        x.shore(true, 60000);
        x.takeShore();
        Scene.run(x, 1);
        Check.same("at 2", x.count(2), 2);
        x.shore(false, 0);
        Scene.run(x, 58);
        Check.same("tick 79", x.count(2), 2);
        Scene.run(x, 1);
        Check.same("tick 80: six classes", x.count(2), 0);
        Check.same("one blackout", x.count(1), 1);
        Scene.run(x, 1);
        Check.same("tick 81: the next", x.count(1), 2);
        Check.same("at 1", x.count(2), 1);
    }

    /** "all consumers that are CONNECTED become STORED": no others. */
    private static void onlyConnectedOnesAreStored() {
        ShipPower x = Scene.onShore(58000);
        int connected = Scene.asked(x, 0, 5, 10, 10);
        int off = x.consumer(0, 5, 10, 10);
        int shed = Scene.asked(x, 0, 0, 10, 10);
        int waits = Scene.asked(x, 0, 5, 800, 10);
        Scene.run(x, 1);
        x.shore(false, 0);
        Scene.run(x, 20);
        Check.same("a blackout", x.count(1), 1);
        Check.same("CONNECTED", x.look(connected, 0), Scene.STORED);
        Check.same("OFF", x.look(off, 0), 0);
        Check.same("SHED", x.look(shed, 0), Scene.SHED);
        Check.same("WAITING", x.look(waits, 0), Scene.WAITING);
        Check.same("one event", Scene.kept(x, 9, connected), 1);
    }

    /** "set 4 .. of those that are OFF": one that is COOLING is not started. */
    private static void emergencyThatIsNotOff() {
        ShipPower x = Scene.running(4);
        x.trip(4);
        Check.same("one blackout, of tick 20", x.count(1), 1);
        x.shore(true, 60000);
        x.takeShore();
        Scene.run(x, 70);
        x.shore(false, 0);
        Scene.run(x, 20);
        Check.same("another", x.count(1), 2);
        Check.same("COOLING as it was", x.set(4, 6), 200 - 90);
    }

    private static void emergencyWithNodeDead() {
        ShipPower x = Scene.with(0);
        Scene.run(x, 20);
        Check.same("a blackout", x.count(1), 1);
        Check.same("4 is not started", Scene.state(x, 4), Scene.OFF);
    }

    /** "after the first clause one of the others at most, in a tick" */
    private static void onlyOneClauseInATick() {
        ShipPower x = Scene.with();
        Scene.run(x, 20);
        Check.same("the ladder is at 1", x.count(2), 1);
        Scene.run(x, 9);
        x.shore(true, 60000);
        x.takeShore();
        int light = Scene.asked(x, 0, 5, 10, 10);
        Scene.run(x, 1);
        Check.same("tick 30: at 2", x.count(2), 2);
        Scene.run(x, 1);
        x.shore(false, 0);
        Check.same("CONNECTED", x.look(light, 0), Scene.CONNECTED);
        Scene.run(x, 58);
        Check.same("tick 89: six classes from 40 to 90", x.count(2), 2);
        Scene.run(x, 1);
        Check.same("tick 90: at 0, though dark for long", x.count(2), 0);
        Check.same("one blackout", x.count(1), 1);
        Check.same("CONNECTED", x.look(light, 0), Scene.CONNECTED);
        Scene.run(x, 1);
        Check.same("tick 91: the next blackout", x.count(1), 2);
        Check.same("STORED", x.look(light, 0), Scene.STORED);
    }

    /** "whose group is live": one that misses its class stays STORED, until it is asked for no more. */
    private static void storedWithoutALiveGroup() {
        ShipPower x = Scene.onShore(60000);
        int at0 = Scene.asked(x, 0, 5, 10, 10);
        int at1 = Scene.asked(x, 1, 5, 10, 10);
        x.shore(false, 0);
        Scene.run(x, 20);
        x.tie(false);
        x.shore(true, 60000);
        x.takeShore();
        Scene.run(x, 100);
        Check.same("the ladder is done", x.count(2), 0);
        Check.same("bus 0 is live", x.look(at0, 0), Scene.CONNECTED);
        Check.same("bus 1 is not", x.look(at1, 0), Scene.STORED);
        x.tie(true);
        Scene.run(x, 50);
        Check.same("now it is, too late", x.look(at1, 0), Scene.STORED);
        Check.same("asked for", x.ask(at1, true), Scene.STORED);
        Check.same("asked for no more", x.ask(at1, false), 0);
        Check.same("and again", x.ask(at1, true), Scene.CONNECTED);
    }

    private static void waitingOnesWaitOn() {
        ShipPower x = Scene.with();
        int waits = Scene.asked(x, 0, 5, 10, 10);
        Scene.run(x, 100);
        Check.same("not STORED", x.look(waits, 0), Scene.WAITING);
    }
}
