/** Steps 8 to 10: consumers that wait, sets that are called and sent away. */
public final class ManagerTest {
    public static void main(String[] args) {
        lightOnesWait();
        heavyOnesWait();
        demandAsItIsByThen();
        callsByNeed();
        callsForHeavyOnes();
        callsOnlyWhatItCan();
        callsForADeadGroup();
        callsByGroups();
        bus2AloneCallsNothing();
        looksByGroups();
        heavyOnesOfAnotherGroup();
        calmLooks();
        calmBeginsAnew();
        calmLooksAreBrokenOff();
        calmLooksEndWithACall();
        calmNeedsAnother();
        calmIsKeptForTheLead();
        calmOfALaterLead();
        emergencyIsNotComing();
        lastInOrderGoes();
        lastOfThoseThatAreOn();
        otherHasToBeOn();
        nodeDeadStays();
        nodeDeadCounts();
        startingAndIdleAreComing();
        unloadingIsNotComing();
        coolingIsNotComing();
        onlyWhatIsOffIsCalled();
        heavyFrom200();
        unloadingFallsBy50();
        unloadingSticks();
        unloadingGoesOnWithNodeDead();
        Check.end("ManagerTest");
    }

    private static void lightOnesWait() {
        ShipPower x = Scene.with(0);
        int light = Scene.asked(x, 0, 0, 199, 60);
        int elsewhere = Scene.asked(x, 1, 0, 10, 10);
        x.tie(false);
        x.start(0);
        Scene.run(x, 29);
        Check.same("waits", x.look(light, 0), Scene.WAITING);
        Scene.run(x, 1);
        Check.same("connected once it is live", x.look(light, 0), Scene.CONNECTED);
        Check.same("the event", Scene.kept(x, 7, light), 1);
        Check.same("the other side is dead", x.look(elsewhere, 0), Scene.WAITING);
    }

    private static void heavyOnesWait() {
        ShipPower x = Scene.with(0);
        int over = Scene.asked(x, 0, 0, 200, 51);
        int just = Scene.asked(x, 0, 0, 200, 50);
        x.start(0);
        Scene.run(x, 30);
        Check.same("1020 of 1000", x.look(over, 0), Scene.WAITING);
        Check.same("1000 of 1000", x.look(just, 0), Scene.CONNECTED);
        Scene.run(x, 100);
        Check.same("800 left: waits", x.look(over, 0), Scene.WAITING);
        Scene.asked(x, 0, 0, 1, 10);
        x.ask(just, false);
        x.ask(over, false);
        int next = x.consumer(0, 0, 333, 30);
        Check.same("999 of 999", x.ask(next, true), Scene.CONNECTED);
    }

    private static void demandAsItIsByThen() {
        ShipPower x = Scene.with(0);
        int first = Scene.asked(x, 0, 0, 400, 10);
        int second = Scene.asked(x, 1, 0, 700, 10);
        int third = Scene.asked(x, 2, 0, 600, 10);
        int fourth = Scene.asked(x, 2, 0, 200, 10);
        x.start(0);
        Scene.run(x, 30);
        Check.same("first", x.look(first, 0), Scene.CONNECTED);
        Check.same("too much", x.look(second, 0), Scene.WAITING);
        Check.same("just so", x.look(third, 0), Scene.CONNECTED);
        Check.same("nothing left", x.look(fourth, 0), Scene.WAITING);
        x.ask(first, false);
        Scene.run(x, 1);
        Check.same("what fits of the next", x.look(fourth, 0), Scene.CONNECTED);
        Check.same("second waits", x.look(second, 0), Scene.WAITING);
    }

    private static void callsByNeed() {
        ShipPower x = Scene.running(0);
        x.fail(2, 0);
        x.fail(3, 0);
        Scene.asked(x, 0, 5, 701, 10);
        Scene.run(x, 9);
        Check.same("looks only each 20th tick", Scene.state(x, 2), Scene.OFF);
        Scene.run(x, 1);
        Check.same("tick 40", Scene.state(x, 2), Scene.STARTING);
        Check.same("30 left", x.set(2, 6), 30);
        Check.same("the event", Scene.happened(x, 0), 400000 + 502);
        Scene.run(x, 60);
        Check.same("one is enough", Scene.state(x, 3), Scene.OFF);
    }

    private static void callsForHeavyOnes() {
        ShipPower x = Scene.running(0);
        x.fail(1, 0);
        x.fail(2, 0);
        Scene.asked(x, 0, 5, 500, 21);
        Scene.run(x, 9);
        Check.same("not yet", Scene.state(x, 1), Scene.OFF);
        Scene.run(x, 1);
        Check.same("1050 and 300", Scene.state(x, 1), Scene.STARTING);
        Scene.run(x, 20);
        Check.same("2000 will do", Scene.state(x, 2), Scene.OFF);
        Scene.asked(x, 1, 5, 500, 14);
        Scene.run(x, 20);
        Check.same("connected, it needs 700 more", Scene.state(x, 2), Scene.STARTING);

        ShipPower light = shoreAtBus0(2, 3);
        Scene.asked(light, 1, 5, 199, 60);
        light.start(2);
        Scene.run(light, 20);
        Check.same("light ones that wait are no need", Scene.state(light, 3), Scene.OFF);

        ShipPower heavy = shoreAtBus0(2, 3);
        Scene.asked(heavy, 1, 5, 200, 36);
        heavy.start(2);
        Scene.run(heavy, 20);
        Check.same("heavy ones are", Scene.state(heavy, 3), Scene.STARTING);
    }

    /** Bus 0 is live by the shore, and bus 1 dead, with no blackout. */
    private static ShipPower shoreAtBus0(int... sets) {
        ShipPower x = Scene.with(sets);
        x.tie(false);
        x.shore(true, 60000);
        x.takeShore();
        return x;
    }

    private static void callsOnlyWhatItCan() {
        ShipPower x = Scene.running(0);
        x.mode(3);
        Scene.asked(x, 0, 5, 10, 10);
        x.fail(1, Scene.NODE_DEAD);
        Scene.run(x, 100);
        Check.same("NODE DEAD", Scene.state(x, 1), Scene.OFF);
        x.fail(3, Scene.NO_START);
        Scene.run(x, 20);
        Check.same("3 is called", Scene.state(x, 3), Scene.STARTING);
        Scene.run(x, 100);
        Check.same("3 is BLOCKED", Scene.state(x, 3), Scene.BLOCKED);
        x.fail(2, 0);
        Scene.run(x, 20);
        Check.same("then 2", Scene.state(x, 2), Scene.STARTING);
    }

    private static void callsForADeadGroup() {
        ShipPower x = shoreAtBus0(2);
        Scene.run(x, 19);
        Check.same("bus 1 waits for the look", Scene.state(x, 2), Scene.OFF);
        Scene.run(x, 1);
        Check.same("live or not", Scene.state(x, 2), Scene.STARTING);
        Check.same("it is no blackout", x.count(1), 0);
    }

    private static void callsByGroups() {
        ShipPower x = Scene.with(0, 2);
        x.tie(false);
        x.start(0);
        x.start(2);
        Scene.run(x, 30);
        x.fail(1, 0);
        x.fail(3, 0);
        Scene.asked(x, 1, 5, 750, 10);
        Scene.run(x, 10);
        Check.same("one more for bus 1, of its own sets", Scene.state(x, 3), Scene.STARTING);
        Check.same("bus 0 has enough", Scene.state(x, 1), Scene.OFF);
    }

    /** "by groups in which main sets are (bus 0 or 1)": what bus 2 needs by itself calls none of them. */
    private static void bus2AloneCallsNothing() {
        ShipPower x = Scene.running(4);
        x.fail(0, 0);
        x.fail(1, 0);
        for (int i = 0; i < 4; i++) {
            Scene.asked(x, 2, 5, 199, 10);
        }
        x.stick(4, true);
        Scene.run(x, 30);
        Check.same("0 is called for the reserve", Scene.state(x, 0), Scene.STARTING);
        Check.same("796 at bus 2", x.bus(2, 3), 796);
        Check.same("1 is not called", Scene.state(x, 1), Scene.OFF);
    }

    /** Both sides call in tick 20: that of bus 0 first. */
    private static void looksByGroups() {
        ShipPower x = shoreAtBus0(0, 2);
        Scene.run(x, 20);
        Check.same("2 is STARTING", Scene.happened(x, 0), 200000 + 502);
        Check.same("0 was ahead of it", Scene.happened(x, 1), 200000 + 500);
    }

    /** "the first demands of HEAVY ones WAITING there": not of those at the other side. */
    private static void heavyOnesOfAnotherGroup() {
        ShipPower x = Scene.with(0);
        x.tie(false);
        x.start(0);
        Scene.run(x, 30);
        x.fail(1, 0);
        Scene.asked(x, 1, 5, 720, 10);
        Scene.run(x, 30);
        Check.same("WAITING at bus 1", x.look(0, 0), Scene.WAITING);
        Check.same("bus 0 has enough", Scene.state(x, 1), Scene.OFF);
    }

    /** Set 2 is UNLOADING and cannot leave: the last one that is ON is 1. */
    private static void lastOfThoseThatAreOn() {
        ShipPower x = Scene.running(0, 1, 2);
        Scene.run(x, 190);
        Check.same("2 goes", Scene.state(x, 2), Scene.UNLOADING);
        x.stick(2, true);
        Scene.run(x, 199);
        Check.same("tick 419", Scene.state(x, 1), Scene.ON);
        Scene.run(x, 1);
        Check.same("tick 420", Scene.state(x, 1), Scene.UNLOADING);
        Check.same("2 went once", Scene.kept(x, 6, 2), 1);
    }

    /** "at least one other of its sets 0 .. 3 is ON": 1 is UNLOADING and cannot leave, 2 is IDLE for good. */
    private static void otherHasToBeOn() {
        ShipPower x = Scene.running(0, 1);
        Scene.run(x, 190);
        Check.same("1 goes", Scene.state(x, 1), Scene.UNLOADING);
        x.stick(1, true);
        x.start(2);
        Scene.run(x, 500);
        Check.same("2 is IDLE", Scene.state(x, 2), Scene.IDLE);
        Check.same("0 stays", Scene.state(x, 0), Scene.ON);
    }

    private static void calmLooks() {
        ShipPower x = Scene.running(0, 1);
        Scene.run(x, 189);
        Check.same("nine looks by tick 219", Scene.state(x, 1), Scene.ON);
        Scene.run(x, 1);
        Check.same("the tenth", Scene.state(x, 1), Scene.UNLOADING);
        Check.same("it begins in that tick", x.set(1, 5), 950);
        Check.same("the event", Scene.happened(x, 0), 220 * 10000 + 601);
        Scene.run(x, 18);
        Check.same("tick 238", x.set(1, 5), 50);
        Scene.run(x, 1);
        Check.same("tick 239", Scene.state(x, 1), Scene.COOLING);
        Check.same("100 left", x.set(1, 6), 100);
        Check.same("weight", x.set(1, 5), 0);
        Check.same("its breaker", x.count(6), 193);
        Scene.run(x, 1000);
        Check.same("the last one stays", Scene.state(x, 0), Scene.ON);
    }

    /** "with 10 it is UNLOADING, and there is none": ten more looks for the next one. */
    private static void calmBeginsAnew() {
        ShipPower x = Scene.running(0, 1, 2);
        Scene.run(x, 190);
        Check.same("2 goes in tick 220", Scene.state(x, 2), Scene.UNLOADING);
        Scene.run(x, 199);
        Check.same("1 is ON in tick 419", Scene.state(x, 1), Scene.ON);
        Scene.run(x, 1);
        Check.same("1 goes in tick 420", Scene.state(x, 1), Scene.UNLOADING);
    }

    /** Coming less the rating is 1000: need 1000 is calm, 1001 is not. */
    private static void calmLooksAreBrokenOff() {
        ShipPower x = Scene.running(0, 1);
        x.mode(3);
        Scene.run(x, 100);
        int one = Scene.asked(x, 0, 5, 1, 10);
        Scene.run(x, 20);
        x.ask(one, false);
        Scene.run(x, 189);
        Check.same("tick 339: nine looks anew", Scene.state(x, 1), Scene.ON);
        Scene.run(x, 1);
        Check.same("looks 160 .. 340 are ten", Scene.state(x, 1), Scene.UNLOADING);

        ShipPower y = Scene.running(0, 1);
        y.mode(3);
        Scene.asked(y, 0, 5, 1, 10);
        Scene.run(y, 600);
        Check.same("never calm", Scene.state(y, 1), Scene.ON);
    }

    /** Looks 40 .. 120 are calm; in tick 140 there is too little, and none can be called; then it is calm again. */
    private static void calmLooksEndWithACall() {
        ShipPower x = Scene.running(0, 1);
        Scene.run(x, 100);
        int big = Scene.asked(x, 0, 5, 750, 24);
        Scene.run(x, 10);
        Check.same("connected: 1800 and 300 of 2000", x.look(big, 0), Scene.CONNECTED);
        x.ask(big, false);
        Scene.run(x, 199);
        Check.same("tick 339", Scene.state(x, 1), Scene.ON);
        Scene.run(x, 1);
        Check.same("tick 340", Scene.state(x, 1), Scene.UNLOADING);
    }

    /** The tie opens in tick 35: bus 1 looks for itself from tick 40 on. */
    private static void calmOfALaterLead() {
        ShipPower x = Scene.running(2, 3);
        Scene.run(x, 5);
        x.tie(false);
        Scene.run(x, 184);
        Check.same("tick 219", Scene.state(x, 3), Scene.ON);
        Scene.run(x, 1);
        Check.same("tick 220", Scene.state(x, 3), Scene.UNLOADING);
    }

    private static void emergencyIsNotComing() {
        ShipPower x = Scene.running(0);
        x.start(4);
        x.fail(1, 0);
        Scene.asked(x, 0, 5, 750, 10);
        Scene.run(x, 10);
        Check.same("4 is STARTING in the group", Scene.state(x, 4), Scene.STARTING);
        Check.same("1 is called all the same", Scene.state(x, 1), Scene.STARTING);
    }

    /** Set 1 is IDLE for good: it is coming, but not ON. */
    private static void calmNeedsAnother() {
        ShipPower x = Scene.running(0);
        x.start(1);
        Scene.run(x, 500);
        Check.same("1 is IDLE", Scene.state(x, 1), Scene.IDLE);
        Check.same("0 stays", Scene.state(x, 0), Scene.ON);
    }

    /** Five looks of bus 1 as a lead, three of bus 0 while the tie is closed, then five of bus 1 again. */
    private static void calmIsKeptForTheLead() {
        ShipPower x = Scene.with(2, 3);
        x.tie(false);
        x.start(2);
        x.start(3);
        Scene.run(x, 125);
        x.tie(true);
        Scene.run(x, 60);
        Check.same("one group", x.bus(1, 2), 0);
        x.tie(false);
        Scene.run(x, 94);
        Check.same("tick 279", Scene.state(x, 3), Scene.ON);
        Scene.run(x, 1);
        Check.same("tick 280", Scene.state(x, 3), Scene.UNLOADING);
    }

    private static void lastInOrderGoes() {
        ShipPower x = Scene.running(0, 1, 2);
        x.order(2 | 1 << 2 | 3 << 4 | 0 << 6);
        Scene.run(x, 190);
        Check.same("0 is the last", Scene.state(x, 0), Scene.UNLOADING);
        Check.same("1 is not", Scene.state(x, 1), Scene.ON);
        Scene.run(x, 200);
        Check.same("then 1", Scene.state(x, 1), Scene.UNLOADING);
        Check.same("ten looks later", Scene.happened(x, 0), 420 * 10000 + 601);
    }

    private static void nodeDeadStays() {
        ShipPower x = Scene.running(0, 1, 2);
        x.fail(2, Scene.NODE_DEAD);
        Scene.run(x, 190);
        Check.same("2 stays", Scene.state(x, 2), Scene.ON);
        Check.same("1 goes", Scene.state(x, 1), Scene.UNLOADING);
        Scene.run(x, 200);
        Check.same("then 0, for 2 is ON", Scene.state(x, 0), Scene.UNLOADING);
        Scene.run(x, 1000);
        Check.same("2 alone", x.count(6), 192 | 4);
    }

    /** A NODE DEAD set that is STARTING or IDLE is coming all the same. */
    private static void nodeDeadCounts() {
        ShipPower x = Scene.running(0);
        x.start(1);
        x.mode(2);
        Scene.asked(x, 0, 5, 500, 10);
        x.fail(2, 0);
        Scene.run(x, 100);
        Check.same("1 is IDLE", Scene.state(x, 1), Scene.IDLE);
        Check.same("2 is not called", Scene.state(x, 2), Scene.OFF);
    }

    /** "COMING is the sum of ratings of its sets 0 .. 3 that are STARTING, IDLE or ON" */
    private static void startingAndIdleAreComing() {
        ShipPower x = Scene.running(0);
        Scene.run(x, 60);
        x.fail(1, 0);
        x.fail(2, 0);
        Scene.burden(x, 701);
        Scene.run(x, 10);
        Check.same("called in tick 100", Scene.happened(x, 0), 100 * 10000 + 501);
        Scene.run(x, 20);
        Check.same("STARTING: no other is called", Scene.state(x, 2), Scene.OFF);
        x.fail(1, Scene.NODE_DEAD);
        Scene.run(x, 40);
        Check.same("it cannot close", Scene.state(x, 1), Scene.IDLE);
        Check.same("IDLE: no other is called", Scene.state(x, 2), Scene.OFF);
    }

    private static void unloadingIsNotComing() {
        ShipPower x = Scene.running(0, 1);
        Scene.run(x, 190);
        Check.same("1 goes", Scene.state(x, 1), Scene.UNLOADING);
        x.stick(1, true);
        x.fail(2, 0);
        Scene.burden(x, 701);
        Scene.run(x, 20);
        Check.same("UNLOADING, at the bus", x.bus(0, 4), 2000);
        Check.same("2 is called", Scene.state(x, 2), Scene.STARTING);
    }

    private static void coolingIsNotComing() {
        ShipPower x = Scene.running(0, 1);
        x.fail(2, 0);
        Scene.burden(x, 701);
        x.trip(1);
        Scene.run(x, 10);
        Check.same("COOLING", Scene.state(x, 1), Scene.COOLING);
        Check.same("2 is called", Scene.state(x, 2), Scene.STARTING);
    }

    /** "the first in the start order of its sets that is OFF": not one that is COOLING, BLOCKED, IDLE or STARTING. */
    private static void onlyWhatIsOffIsCalled() {
        ShipPower x = Scene.running(0);
        x.mode(3);
        Scene.burden(x, 10);
        x.fail(1, Scene.NO_START);
        x.start(1);
        Scene.run(x, 90);
        Check.same("BLOCKED", Scene.state(x, 1), Scene.BLOCKED);
        x.fail(2, 0);
        x.fail(3, 0);
        x.start(2);
        Scene.run(x, 29);
        x.fail(2, Scene.NODE_DEAD);
        Scene.run(x, 5);
        Check.same("IDLE", Scene.state(x, 2), Scene.IDLE);
        Scene.burden(x, 1100);
        Scene.run(x, 6);
        Check.same("the one that is OFF", Scene.state(x, 3), Scene.STARTING);
        int events = x.count(5);
        Scene.run(x, 20);
        Check.same("then there is none", x.count(5), events);
    }

    /** "HEAVY: 200 kilowatts or more", by need: of 999 a light one leaves room, and a heavy one does not. */
    private static void heavyFrom200() {
        int[] kilowatts = {199, 200};
        for (int i = 0; i < 2; i++) {
            ShipPower x = shoreAtBus0(2, 3);
            x.start(2);
            // 36 tenths: 716 of the light one, and 720.
            Scene.asked(x, 1, 5, kilowatts[i], 36);
            Scene.run(x, 20);
            Check.same("WAITING", x.look(0, 0), Scene.WAITING);
            Check.same("3 is called for " + kilowatts[i], Scene.state(x, 3), i == 0 ? Scene.OFF : Scene.STARTING);
        }
    }

    /** "the weight falls by 50; with 0 its breaker opens" */
    private static void unloadingFallsBy50() {
        ShipPower x = Scene.running(0, 1);
        Scene.run(x, 189);
        for (int weight = 950; weight > 0; weight -= 50) {
            x.tick();
            Check.same("weight", x.set(1, 5), weight);
            Check.same("UNLOADING", Scene.state(x, 1), Scene.UNLOADING);
        }
        x.tick();
        Check.same("COOLING", Scene.state(x, 1), Scene.COOLING);
        Check.no("open", Scene.isClosed(x, 1));
    }

    private static void unloadingSticks() {
        ShipPower x = Scene.running(0, 1);
        Scene.run(x, 190);
        x.stick(1, true);
        Scene.run(x, 25);
        Check.same("UNLOADING", Scene.state(x, 1), Scene.UNLOADING);
        Check.same("weight 0", x.set(1, 5), 0);
        Check.same("ticks 239 .. 245", x.count(8), 7);
        Check.same("it counts as capacity", x.bus(0, 4), 2000);
        x.stick(1, false);
        Scene.run(x, 1);
        Check.same("COOLING", Scene.state(x, 1), Scene.COOLING);
    }

    /** Step 10 makes no exception of NODE DEAD ones: what is UNLOADING goes on with it. */
    private static void unloadingGoesOnWithNodeDead() {
        ShipPower x = Scene.running(0, 1);
        Scene.run(x, 195);
        Check.same("weight", x.set(1, 5), 700);
        x.fail(1, Scene.NODE_DEAD);
        Scene.run(x, 13);
        Check.same("weight", x.set(1, 5), 50);
        Scene.run(x, 1);
        Check.same("COOLING", Scene.state(x, 1), Scene.COOLING);
    }
}
