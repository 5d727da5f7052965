/** "A TICK does, in this order": for each two steps (or parts of one) that could be told apart, a run that does so. */
public final class StepOrderTest {
    public static void main(String[] args) {
        runningAheadOfClosing();
        setsAheadOfTheTie();
        tieAheadOfTheFeeders();
        feedersAheadOfFrequencies();
        loadsAheadOfHeat();
        setsAheadOfGroups();
        protectionAheadOfShedding();
        sheddingAheadOfWaiting();
        waitingAheadOfTheManager();
        managerAheadOfUnloading();
        unloadingAheadOfParallel();
        managerAheadOfTheBlackout();
        Check.end("StepOrderTest");
    }

    /** 1, 2: what is IDLE in a tick may close in that tick. */
    private static void runningAheadOfClosing() {
        ShipPower x = Scene.with(3);
        x.start(3);
        Scene.run(x, 29);
        Check.same("STARTING", Scene.state(x, 3), Scene.STARTING);
        x.tick();
        Check.same("ON", Scene.state(x, 3), Scene.ON);
        Check.same("IDLE in that tick", Scene.kept(x, 1, 3), 1);
    }

    /** 2: both sides become live out of step, so that the tie may not close; ahead of the sets it would have. */
    private static void setsAheadOfTheTie() {
        ShipPower x = Scene.with();
        x.tie(false);
        x.start(0);
        Scene.run(x, 10);
        x.start(2);
        Scene.run(x, 40);
        x.fail(0, 0);
        x.fail(2, 0);
        x.tie(true);
        x.tick();
        Check.same("0 is ON", Scene.state(x, 0), Scene.ON);
        Check.same("2 is ON", Scene.state(x, 2), Scene.ON);
        Check.no("the tie is open", Scene.isClosed(x, 6));
        Check.same("and ordered", x.count(7), 1);
    }

    /** 2, 3: bus 0 is live by the tie, so that 7 stays closed; ahead of that bus 1 alone was. */
    private static void tieAheadOfTheFeeders() {
        ShipPower x = Scene.with(2);
        x.tie(false);
        x.start(2);
        Scene.run(x, 29);
        x.tie(true);
        Check.same("the tie and 7", x.tick(), 4 | 64 | 128);
    }

    /** 3, 4: what bus 2 demands counts in the tick in which 7 closes. */
    private static void feedersAheadOfFrequencies() {
        ShipPower x = Scene.with(4);
        x.start(4);
        Scene.run(x, 30);
        x.fail(0, 0);
        x.start(0);
        Scene.asked(x, 2, 5, 10, 10);
        Scene.run(x, 30 + 99);
        Check.same("set 4 left in this tick", Scene.state(x, 4), Scene.COOLING);
        Check.same("bus 0 without bus 2", x.bus(0, 0), 60600);
        x.tick();
        Check.yes("7 is closed", Scene.isClosed(x, 7));
        Check.same("12 less for 10 kilowatts", x.bus(0, 0), 60588);
        Check.same("and their load", Scene.load(x, 0), 10);
    }

    /** 5, 6: the load of the tick itself heats. */
    private static void loadsAheadOfHeat() {
        ShipPower x = Scene.running(0);
        Scene.burden(x, 1007);
        x.tick();
        Check.same("heat", x.set(0, 2), 7);
    }

    /**
     * 6: "Group by group then": set 1 has been off for 100 ticks in the tick in which its group has been low for 20.
     * It has 444 of 800, where 307 are due; the others are not far enough off.
     */
    private static void setsAheadOfGroups() {
        ShipPower x = Scene.shoreTaken(60000);
        x.fail(0, 0);
        x.fail(1, 0);
        x.start(0);
        x.start(1);
        x.tick();
        for (int i = 0; i < 300 && (Scene.state(x, 0) != Scene.ON || Scene.state(x, 1) != Scene.ON); i++) {
            x.tick();
        }
        Check.same("all three", x.count(6), 192 | 1 | 2 | 32);
        Scene.burden(x, 800);
        x.fail(1, Scene.HIGH);
        Scene.run(x, 5);
        x.shore(true, 56999);
        Scene.run(x, 94);
        Check.same("low for 19 ticks", x.bus(0, 0), 56999);
        Check.same("all three still", x.count(6), 192 | 1 | 2 | 32);
        x.tick();
        Check.same("off for 100", Scene.state(x, 1), Scene.BLOCKED);
        Check.same("low for 20", Scene.state(x, 0), Scene.COOLING);
        Check.same("low for 20", Scene.state(x, 5), Scene.COOLING);
    }

    /** 6, 7: in its 20th low tick the group is dead when it comes to shedding. */
    private static void protectionAheadOfShedding() {
        ShipPower x = Scene.shoreTaken(56999);
        Scene.run(x, 19);
        int light = Scene.asked(x, 0, 0, 10, 10);
        x.tick();
        Check.same("tripped", Scene.state(x, 5), Scene.COOLING);
        Check.same("not shed", x.look(light, 0), Scene.CONNECTED);
        Check.same("none", x.count(4), 0);
    }

    /** 7, 8: what is shed makes room for a heavy one in that tick. */
    private static void sheddingAheadOfWaiting() {
        ShipPower x = Scene.onShore(58000);
        int light = Scene.asked(x, 0, 0, 10, 10);
        int heavy = Scene.asked(x, 0, 5, 600, 10);
        Check.same("590 left", x.look(heavy, 0), Scene.WAITING);
        x.tick();
        Check.same("shed", x.look(light, 0), Scene.SHED);
        Check.same("600 left", x.look(heavy, 0), Scene.CONNECTED);
    }

    /** 8, 9: light ones that are connected in the tick of a look count in it. */
    private static void waitingAheadOfTheManager() {
        ShipPower x = Scene.with(0);
        Scene.burden(x, 701);
        Scene.run(x, 10);
        x.start(0);
        Scene.run(x, 29);
        x.fail(1, 0);
        Check.same("waiting in tick 39", x.bus(0, 3), 0);
        x.tick();
        Check.same("connected", x.bus(0, 3), 701);
        Check.same("1001 are needed", Scene.state(x, 1), Scene.STARTING);
    }

    /** 9, 10: the weight falls in the tick of the tenth look. */
    private static void managerAheadOfUnloading() {
        ShipPower x = Scene.running(0, 1);
        Scene.run(x, 190);
        Check.same("UNLOADING", Scene.state(x, 1), Scene.UNLOADING);
        Check.same("weight", x.set(1, 5), 950);
    }

    /** 10: of what is sent away for the shore the weight falls from the next tick on. */
    private static void unloadingAheadOfParallel() {
        ShipPower x = Scene.shoreTaken(60000);
        x.fail(0, 0);
        x.start(0);
        x.tick();
        Check.yes("it comes", x.ticks(500) < 500);
        Scene.run(x, 199);
        Check.same("UNLOADING", Scene.state(x, 0), Scene.UNLOADING);
        Check.same("weight", x.set(0, 5), 1000);
        x.tick();
        Check.same("a tick later", x.set(0, 5), 950);
    }

    /** 9, 11: in tick 20 the manager calls 0, and the blackout 4, 1 and 2. */
    private static void managerAheadOfTheBlackout() {
        ShipPower x = new ShipPower();
        Scene.run(x, 20);
        int[] called = {0, 4, 1, 2};
        for (int i = 0; i < 4; i++) {
            Check.same("STARTING", Scene.happened(x, 4 - i), 20 * 10000 + 500 + called[i]);
        }
        Check.same("3 is not called", Scene.state(x, 3), Scene.OFF);
    }
}
