/** Terms: a breaker that STICKS, in every way in which one is to open or close, and a set that has left its bus. */
public final class StickingTest {
    private static final int[] AT = {0, 0, 1, 1, 2, 0};

    public static void main(String[] args) {
        for (int set = 0; set < 6; set++) {
            setDoesNotClose(set);
            setDoesNotOpen(set);
        }
        tieNeitherOpensNorCloses();
        feeder7DoesNotOpen();
        feeder7DoesNotClose();
        feeder8DoesNotOpen();
        feeder8DoesNotClose();
        feeder8DoesNotOpenForSet4();
        feeder7DoesNotCloseInsteadOf8();
        staysAsItIsByTrip();
        staysAsItIsByHeat();
        staysAsItIsByWatch();
        staysAsItIsByLowFrequency();
        staysAsItIsByUnloading();
        staysAsItIsByFeeders();
        heatIsAheadOfTheWatch();
        heatBeyondAnInt();
        leftByTrip();
        leftByHeat();
        leftByWatch();
        leftByLowFrequency();
        leftByUnloading();
        leftByFeeders();
        leftByTheShore();
        Check.end("StickingTest");
    }

    /** A plant whose only set is IDLE with the next tick. */
    private static ShipPower nearlyIdle(int set) {
        if (set == 5) {
            return Scene.shoreTaken(60000);
        }
        ShipPower x = Scene.with(set);
        x.start(set);
        Scene.run(x, 29);
        return x;
    }

    /** "neither opens nor closes: what would do that does not, this time" */
    private static void setDoesNotClose(int set) {
        ShipPower x = nearlyIdle(set);
        x.stick(set, true);
        Scene.run(x, 2);
        Check.same("IDLE " + set, Scene.state(x, set), Scene.IDLE);
        Check.no("open " + set, Scene.isClosed(x, set));
        Check.same("no event of ON " + set, Scene.kept(x, 2, set), 0);
        Check.same("twice " + set, x.count(8), 2);
        Check.same("not live " + set, x.bus(AT[set], 5), 0);
        x.stick(set, false);
        Scene.run(x, 1);
        Check.same("the next time it does " + set, Scene.state(x, set), Scene.ON);
        Check.same("twice still " + set, x.count(8), 2);
    }

    private static void setDoesNotOpen(int set) {
        ShipPower x = nearlyIdle(set);
        Scene.run(x, 1);
        Check.same("ON " + set, Scene.state(x, set), Scene.ON);
        x.stick(set, true);
        Check.no("does not trip " + set, x.trip(set));
        Check.same("ON still " + set, Scene.state(x, set), Scene.ON);
        Check.yes("closed still " + set, Scene.isClosed(x, set));
        Check.same("once " + set, x.count(8), 1);
        x.stick(set, false);
        Check.yes("the next time it does " + set, x.trip(set));
        Check.same("once still " + set, x.count(8), 1);
    }

    private static void tieNeitherOpensNorCloses() {
        ShipPower x = new ShipPower();
        x.stick(6, true);
        x.tie(false);
        Check.yes("closed still", Scene.isClosed(x, 6));
        x.stick(6, false);
        x.tie(false);
        Check.no("open", Scene.isClosed(x, 6));
        x.tie(true);
        x.stick(6, true);
        x.tick();
        Check.no("open still", Scene.isClosed(x, 6));
        Check.same("twice", x.count(8), 2);
    }

    /** Sets 0 and 2, each at its side of the open tie; bus 2 is fed from bus 0. */
    private static ShipPower twoSides() {
        ShipPower x = Scene.with(0, 2);
        x.tie(false);
        x.start(0);
        x.start(2);
        Scene.run(x, 60);
        return x;
    }

    /** Set 0 alone comes back, after bus 2 has been fed from bus 1: 8 is closed, and both buses are live. */
    private static ShipPower fedFrom1() {
        ShipPower x = twoSides();
        x.trip(0);
        Scene.run(x, 201);
        x.start(0);
        Scene.run(x, 40);
        Check.same("8 is closed", x.count(6), 1 | 4 | 256);
        return x;
    }

    private static void feeder7DoesNotOpen() {
        ShipPower x = twoSides();
        x.stick(7, true);
        x.trip(0);
        Scene.run(x, 2);
        Check.same("7 does not open, so 8 does not close", x.count(6), 4 | 128);
        Check.same("in each of two ticks", x.count(8), 2);
        x.stick(7, false);
        Scene.run(x, 1);
        Check.same("the next time it does", x.count(6), 4 | 256);
    }

    private static void feeder8DoesNotClose() {
        ShipPower x = twoSides();
        x.stick(8, true);
        x.trip(0);
        Scene.run(x, 1);
        Check.same("7 opens, 8 does not close", x.count(6), 4);
        Scene.run(x, 1);
        Check.same("nor in the next tick", x.count(6), 4);
        Check.same("7 opened once", Scene.kept(x, 11, 7), 1);
        x.stick(8, false);
        Scene.run(x, 1);
        Check.same("the next time it does", x.count(6), 4 | 256);
    }

    private static void feeder8DoesNotOpen() {
        ShipPower x = fedFrom1();
        x.stick(8, true);
        x.trip(2);
        Scene.run(x, 2);
        Check.same("8 does not open, so 7 does not close", x.count(6), 1 | 256);
        Check.same("in each of two ticks", x.count(8), 2);
        x.stick(8, false);
        Scene.run(x, 1);
        Check.same("the next time it does", x.count(6), 1 | 128);
    }

    private static void feeder7DoesNotClose() {
        ShipPower x = fedFrom1();
        x.stick(7, true);
        x.trip(2);
        Scene.run(x, 1);
        Check.same("8 opens, 7 does not close", x.count(6), 1);
        Scene.run(x, 1);
        Check.same("nor in the next tick", x.count(6), 1);
        x.stick(7, false);
        Scene.run(x, 1);
        Check.same("the next time it does", x.count(6), 1 | 128);
        Check.same("bus 2 is in step", x.bus(2, 1), x.bus(0, 1));
    }

    /** "feeders 7 and 8 open if they are closed (if one sticks, no more is done)": 8. */
    private static void feeder8DoesNotOpenForSet4() {
        ShipPower x = fedFrom1();
        x.fail(4, 0);
        x.start(4);
        Scene.run(x, 35);
        Check.same("4 stands by", Scene.state(x, 4), Scene.IDLE);
        x.stick(8, true);
        x.trip(0);
        x.trip(2);
        Scene.run(x, 2);
        Check.same("8 is closed, 4 is open", x.count(6), 256);
        Check.same("IDLE", Scene.state(x, 4), Scene.IDLE);
        Check.same("in each of two ticks", x.count(8), 2);
        x.stick(8, false);
        Scene.run(x, 1);
        Check.same("8 opens, 4 closes", x.count(6), 16);
        Check.same("ON", Scene.happened(x, 0) % 10000, 204);
        Check.same("8 opened ahead of that", Scene.happened(x, 1) % 10000, 1108);
    }

    /** "7 closes if bus 0 is live, else 8": 8 is for a dead bus 0, not for a 7 that sticks. */
    private static void feeder7DoesNotCloseInsteadOf8() {
        ShipPower x = fedFrom1();
        x.stick(7, true);
        x.trip(2);
        Scene.run(x, 1);
        x.start(2);
        Scene.run(x, 250);
        x.start(2);
        Scene.run(x, 40);
        Check.same("2 is ON again", Scene.state(x, 2), Scene.ON);
        Check.same("neither feeder", x.count(6), 1 | 4);
    }

    private static int[] allOf(ShipPower x, int set) {
        int[] all = new int[9];
        for (int what = 0; what < 9; what++) {
            all[what] = x.set(set, what);
        }
        return all;
    }

    private static void sameAs(String way, int[] got, int[] due) {
        for (int what = 0; what < 9; what++) {
            Check.same(way + ": set(.., " + what + ")", got[what], due[what]);
        }
    }

    /** "(Where a set would leave its bus and its breaker sticks, it stays as it is.)" */
    private static void staysAsItIsByTrip() {
        ShipPower x = Scene.running(0);
        Scene.burden(x, 1100);
        Scene.run(x, 5);
        x.stick(0, true);
        int[] before = allOf(x, 0);
        Check.no("sticks", x.trip(0));
        sameAs("trip", allOf(x, 0), before);
        sameAs("with load and heat", before, new int[] {Scene.ON, 1100, 500, 0, 0, 1000, 0, 0, 0});
    }

    private static void staysAsItIsByHeat() {
        ShipPower x = Scene.running(0);
        Scene.burden(x, 1200);
        x.stick(0, true);
        Scene.run(x, 100);
        sameAs("heat", allOf(x, 0), new int[] {Scene.ON, 1200, 20000, 0, 0, 1000, 0, 0, 0});
        Check.same("it was to trip", x.count(8), 1);
        Check.same("no event of that", Scene.kept(x, 3, 0), 0);
    }

    private static void staysAsItIsByWatch() {
        ShipPower x = Scene.running(0, 1, 2);
        Scene.burden(x, 756);
        x.fail(1, Scene.HIGH);
        x.stick(1, true);
        Scene.run(x, 100);
        sameAs("watch", allOf(x, 1), new int[] {Scene.ON, 378, 0, 0, 0, 1000, 0, 0, Scene.HIGH});
        Check.same("it was to leave", x.count(8), 1);
        Scene.run(x, 1);
        Check.same("it has been off all the same", x.count(8), 2);
        x.fail(1, 0);
        Scene.run(x, 1);
        x.fail(1, Scene.HIGH);
        Scene.run(x, 99);
        Check.same("99 ticks anew", x.count(8), 2);
    }

    private static void staysAsItIsByLowFrequency() {
        ShipPower x = Scene.shoreTaken(56999);
        Scene.asked(x, 0, 5, 100, 10);
        x.tick();
        x.stick(5, true);
        Scene.run(x, 19);
        sameAs("low frequency", allOf(x, 5), new int[] {Scene.ON, 100, 0, 0, 0, 1000, 0, 0, 0});
        Check.same("it was to trip", x.count(8), 1);
    }

    private static void staysAsItIsByUnloading() {
        ShipPower x = Scene.running(0, 1);
        Scene.burden(x, 100);
        Scene.run(x, 190);
        x.stick(1, true);
        Scene.run(x, 30);
        sameAs("unloading", allOf(x, 1), new int[] {Scene.UNLOADING, 0, 0, 0, 0, 0, 0, 0, 0});
        Check.same("weight 0 in ticks 239 .. 250", x.count(8), 12);
        Check.same("UNLOADING once", Scene.kept(x, 6, 1), 1);
    }

    /** Set 4 is ON from tick 30 on, bus 0 live from tick 60 on, by set 0. */
    private static ShipPower bothPlants() {
        ShipPower x = Scene.with(4);
        x.start(4);
        Scene.run(x, 30);
        x.fail(0, 0);
        x.start(0);
        Scene.run(x, 30);
        Check.same("both", x.count(6), 1 | 16 | 64);
        return x;
    }

    private static void staysAsItIsByFeeders() {
        ShipPower x = bothPlants();
        Scene.asked(x, 2, 5, 110, 20);
        x.stick(4, true);
        Scene.run(x, 10);
        Check.same("20 more than its rating", x.set(4, 2), 200);
        Scene.run(x, 10);
        Scene.asked(x, 2, 5, 92, 10);
        Scene.run(x, 79);
        // 20 of 20 ticks each, then 2 of 79.
        sameAs("feeders", allOf(x, 4), new int[] {Scene.ON, 202, 400 + 2 * 79, 0, 0, 1000, 0, 0, 0});
        Check.same("it was to leave", x.count(8), 1);
    }

    /** "From 20000 on it TRIPS .. Else the WATCH": one breaker is asked to open once in a tick. */
    private static void heatIsAheadOfTheWatch() {
        ShipPower x = Scene.running(0, 1, 2);
        x.mode(3);
        Scene.burden(x, 2400);
        x.fail(1, Scene.HIGH);
        x.stick(1, true);
        // 1200 of 1000, where 800 are due: 20000 and off a hundred times in one tick.
        Scene.run(x, 99);
        Check.same("neither yet", x.count(8), 0);
        Check.same("heat", x.set(1, 2), 19800);
        Scene.run(x, 1);
        Check.same("once", x.count(8), 1);
        x.stick(1, false);
        Scene.run(x, 1);
        Check.same("COOLING, not BLOCKED", Scene.state(x, 1), Scene.COOLING);
    }

    /** Nothing ends the heat of a set whose breaker sticks: 7760 more in each of 280000 ticks. */
    private static void heatBeyondAnInt() {
        ShipPower x = Scene.running(4);
        x.stick(4, true);
        for (int i = 0; i < 40; i++) {
            Scene.asked(x, 2, 5, 199, 10);
        }
        for (int i = 0; i < 280; i++) {
            x.ticks(1000);
        }
        Check.same("ticks", x.count(0), 280030);
        Check.same("as much as an int holds", x.set(4, 2), Integer.MAX_VALUE);
        x.stick(4, false);
        x.tick();
        Check.same("it trips", Scene.state(x, 4), Scene.COOLING);
        Check.same("and is cold", x.set(4, 2), 0);
    }

    /** "A set that has left its bus has load 0, heat 0, weight 0": as it is told at once, and by group. */
    private static void hasNothing(String way, ShipPower x, int set, int state, int left) {
        sameAs(way, allOf(x, set), new int[] {state, 0, 0, 0, 0, 0, left, 0, x.set(set, 8)});
        Check.no(way + ": its breaker", Scene.isClosed(x, set));
    }

    private static void leftByTrip() {
        ShipPower x = Scene.running(0);
        Scene.burden(x, 1100);
        Scene.run(x, 5);
        x.trip(0);
        hasNothing("trip", x, 0, Scene.COOLING, 200);
        Scene.run(x, 250);
        Check.same("it comes back", Scene.state(x, 0), Scene.ON);
        Check.same("with its whole weight", x.set(0, 5), 1000);
    }

    private static void leftByHeat() {
        ShipPower x = Scene.running(0);
        Scene.burden(x, 1200);
        Scene.run(x, 100);
        hasNothing("heat", x, 0, Scene.COOLING, 200);
    }

    /** Set 1 has 1002 of 2503, where 625 are due; the others have 500, which is just within 125 of that. */
    private static void leftByWatch() {
        ShipPower x = Scene.running(0, 1, 2, 3);
        Scene.burden(x, 2503);
        x.fail(1, Scene.HIGH);
        Scene.run(x, 99);
        Check.same("warm", x.set(1, 2), 2 * 99);
        Scene.run(x, 1);
        hasNothing("watch", x, 1, Scene.BLOCKED, 0);
    }

    private static void leftByLowFrequency() {
        ShipPower x = Scene.shoreTaken(56999);
        for (int i = 0; i < 4; i++) {
            Scene.asked(x, 0, 5, 160, 10);
        }
        Scene.run(x, 19);
        Check.same("warm", x.set(5, 2), 40 * 18);
        Scene.run(x, 1);
        hasNothing("low frequency", x, 5, Scene.COOLING, 200);
    }

    private static void leftByUnloading() {
        ShipPower x = Scene.running(0, 1);
        Scene.burden(x, 100);
        Scene.run(x, 209);
        hasNothing("unloading", x, 1, Scene.COOLING, 100);
    }

    private static void leftByFeeders() {
        ShipPower x = bothPlants();
        for (int i = 0; i < 3; i++) {
            Scene.asked(x, 2, 5, 70, 10);
        }
        Scene.run(x, 98);
        Check.same("warm", x.set(4, 2), 980);
        Scene.run(x, 1);
        hasNothing("feeders", x, 4, Scene.COOLING, 100);
    }

    private static void leftByTheShore() {
        ShipPower x = Scene.onShore(60000);
        for (int i = 0; i < 4; i++) {
            Scene.asked(x, 0, 5, 160, 10);
        }
        Scene.run(x, 10);
        Check.same("warm", x.set(5, 2), 400);
        x.shore(false, 0);
        hasNothing("shore", x, 5, Scene.OFF, 0);
        x.shore(true, 60000);
        x.takeShore();
        Scene.run(x, 1);
        Check.same("cold when it comes back", x.set(5, 2), 40);
    }
}
