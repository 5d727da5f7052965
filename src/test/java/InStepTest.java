/**
 * Steps 1 and 2: the circle of phases, and what "in step" is to the millihertz and as near as phases come.
 * All phases are multiples of nine, so 4995 is the greatest angle that is at most 5000, and 5004 the next.
 */
public final class InStepTest {
    public static void main(String[] args) {
        phaseGoesRound();
        phaseOfABusGoesRound();
        angleOfASet();
        angleIsTheLesserWay();
        frequenciesOfASet();
        frequenciesAndAngle();
        deadBusAsksForNothing();
        lowerNumberFirst();
        liveGroupKeepsItsOwn();
        angleOfTheTie();
        frequenciesOfTheTie();
        tieOfBothTakesBus0();
        Check.end("InStepTest");
    }

    /** "then the phase grows by 9 * the speed, round the circle": 179991 and 9 are 0, not 180000. */
    private static void phaseGoesRound() {
        ShipPower x = Scene.running(0);
        Scene.run(x, 100);
        x.shore(true, 59999);
        x.takeShore();
        x.tick();
        Check.same("three rounds less nine", x.set(5, 4), 179991);
        x.shore(true, 60001);
        x.tick();
        Check.same("a whole round is 0", x.set(5, 4), 0);
        x.tick();
        Check.same("and on", x.set(5, 4), 9);
        Check.same("IDLE all the while", Scene.state(x, 5), Scene.IDLE);
    }

    /** "a PHASE (0 .. 179999, a circle)", of a bus. */
    private static void phaseOfABusGoesRound() {
        ShipPower x = Scene.onShore(59999);
        Check.same("three rounds less nine, twice", x.bus(0, 1), 179982);
        x.shore(true, 60001);
        x.tick();
        Check.same("nine more", x.bus(0, 1), 179991);
        x.tick();
        Check.same("a whole round is 0", x.bus(0, 1), 0);
        x.tick();
        Check.same("and on", x.bus(0, 1), 9);
    }

    /** The shore, whose phase stays 0 at 60000, at a bus that stands still: it closes with the next tick, or never. */
    private static boolean closesAt(int phase) {
        ShipPower x = Scene.standing(phase);
        Check.same("the bus stands at", x.bus(0, 1), phase);
        x.shore(true, 60000);
        x.takeShore();
        x.tick();
        boolean closed = Scene.state(x, 5) == Scene.ON;
        Scene.run(x, 50);
        Check.same("then or never", Scene.state(x, 5), closed ? Scene.ON : Scene.IDLE);
        Check.same("its breaker", Scene.isClosed(x, 5) ? 1 : 0, closed ? 1 : 0);
        return closed;
    }

    /** "and the angle is at most 5000" */
    private static void angleOfASet() {
        Check.yes("no angle", closesAt(0));
        Check.yes("4995", closesAt(4995));
        Check.no("5004", closesAt(5004));
        Check.no("the other side of the circle", closesAt(90000));
    }

    /** "The ANGLE of two phases: the lesser way round between them." */
    private static void angleIsTheLesserWay() {
        Check.yes("9 the other way", closesAt(179991));
        Check.yes("4995 the other way", closesAt(175005));
        Check.no("5004 the other way", closesAt(174996));
    }

    /** The shore at a frequency, its phase meeting that of the bus in the first tick. */
    private static boolean closesWith(int milliHertz) {
        ShipPower x = Scene.standing(Math.floorMod(9 * milliHertz, 180000));
        x.shore(true, milliHertz);
        x.takeShore();
        x.tick();
        return Scene.state(x, 5) == Scene.ON;
    }

    /** "if speed and frequency are at most 150 apart" */
    private static void frequenciesOfASet() {
        Check.yes("150 above", closesWith(60150));
        Check.no("151 above", closesWith(60151));
        Check.yes("150 below", closesWith(59850));
        Check.no("151 below", closesWith(59849));
    }

    /** Both have to be so: 150 apart, but 5004 from each other after that tick, and 4995 a tick later. */
    private static void frequenciesAndAngle() {
        ShipPower x = Scene.standing(1350 + 5004);
        x.shore(true, 60150);
        x.takeShore();
        x.tick();
        Check.same("5004", Scene.state(x, 5), Scene.IDLE);
        x.shore(true, 60001);
        x.tick();
        Check.same("4995", Scene.state(x, 5), Scene.ON);
    }

    /** "if it is not live: it closes": whatever its speed and phase; all buses of the group get these. */
    private static void deadBusAsksForNothing() {
        ShipPower x = Scene.with();
        x.start(0);
        Scene.run(x, 41);
        int speed = x.set(0, 3) + 20;
        int phase = (x.set(0, 4) + 9 * speed) % 180000;
        x.fail(0, 0);
        x.tick();
        Check.same("ON", Scene.state(x, 0), Scene.ON);
        for (int bus = 0; bus < 3; bus++) {
            Check.same("its speed, and 40", x.bus(bus, 0), speed + 40);
            Check.same("its phase, and a tick", x.bus(bus, 1), (phase + 9 * (speed + 40)) % 180000);
        }
    }

    /** "IDLE sets by numbers": the first makes the bus live, and the second has to be in step with it. */
    private static void lowerNumberFirst() {
        ShipPower x = Scene.with();
        x.start(1);
        Scene.run(x, 10);
        x.start(0);
        Scene.run(x, 40);
        int speed = x.set(0, 3);
        x.fail(0, 0);
        x.fail(1, 0);
        x.tick();
        Check.same("0 is ON", Scene.state(x, 0), Scene.ON);
        Check.same("1 has to wait", Scene.state(x, 1), Scene.IDLE);
        Check.same("the bus has the speed of 0", x.bus(0, 0), speed + 20 + 40);
    }

    /** "all buses of a group that was not live get its speed and phase": one that was live keeps its own. */
    private static void liveGroupKeepsItsOwn() {
        ShipPower x = Scene.standing(4500);
        x.shore(true, 60000);
        x.takeShore();
        x.tick();
        Check.same("ON", Scene.state(x, 5), Scene.ON);
        Check.same("the phase of the bus", x.bus(0, 1), 4500);
        Check.same("weight", x.set(5, 5), 1000);
        Check.same("heat", x.set(5, 2), 0);
    }

    /** Set 0 at bus 0, set 2 at bus 1, both with 500: both stand still, bus 1 by an angle ahead of bus 0. */
    private static ShipPower twoStanding(int ahead) {
        ShipPower x = Scene.with(0, 2);
        x.tie(false);
        x.start(0);
        x.start(2);
        Scene.run(x, 30);
        Scene.burden(x, 500);
        for (int rest = 500; rest > 0; rest -= 199) {
            Scene.asked(x, 1, 5, Math.min(rest, 199), 10);
        }
        Scene.run(x, 100);
        Scene.turnBack(x, 1, Math.floorMod(x.bus(1, 1) - x.bus(0, 1) - ahead, 180000));
        Check.same("so far ahead", Math.floorMod(x.bus(1, 1) - x.bus(0, 1), 180000), Math.floorMod(ahead, 180000));
        return x;
    }

    private static boolean tieClosesAt(int ahead) {
        ShipPower x = twoStanding(ahead);
        x.tie(true);
        x.tick();
        boolean closed = Scene.isClosed(x, 6);
        Check.same("the order is gone with that alone", x.count(7), closed ? 0 : 1);
        Scene.run(x, 50);
        Check.same("then or never", Scene.isClosed(x, 6) ? 1 : 0, closed ? 1 : 0);
        return closed;
    }

    /** "or these are as much in step as a set must be": the angle. */
    private static void angleOfTheTie() {
        Check.yes("4995 ahead", tieClosesAt(4995));
        Check.no("5004 ahead", tieClosesAt(5004));
        Check.yes("4995 behind", tieClosesAt(-4995));
        Check.no("5004 behind", tieClosesAt(-5004));
    }

    /** The same of frequencies, at most 150 apart. */
    private static void frequenciesOfTheTie() {
        Check.yes("150 above", tieClosesWith(375));
        Check.no("151 above", tieClosesWith(374));
        Check.yes("150 below", tieClosesWith(625));
        Check.no("151 below", tieClosesWith(626));
    }

    /** One try, in a tick in which the angle is small: bus 1 with that many kilowatts, bus 0 with 500. */
    private static boolean tieClosesWith(int kilowatts) {
        ShipPower x = Scene.with(0, 2);
        x.tie(false);
        x.start(0);
        x.start(2);
        Scene.run(x, 30);
        Scene.burden(x, 500);
        for (int rest = kilowatts; rest > 0; rest -= 199) {
            Scene.asked(x, 1, 5, Math.min(rest, 199), 10);
        }
        Scene.run(x, 100);
        for (int i = 0; i < 140 && away(x.bus(0, 1), x.bus(1, 1)) > 4000; i++) {
            x.tick();
        }
        Check.yes("the angle is small", away(x.bus(0, 1), x.bus(1, 1)) <= 4000);
        x.tie(true);
        x.tick();
        return Scene.isClosed(x, 6);
    }

    private static int away(int a, int b) {
        return Math.min(Math.floorMod(a - b, 180000), Math.floorMod(b - a, 180000));
    }

    /** "buses get the frequency and phase of the live side's, or, of both, of bus 0's group's" */
    private static void tieOfBothTakesBus0() {
        ShipPower x = twoStanding(4500);
        int phase = x.bus(0, 1);
        x.tie(true);
        x.tick();
        Check.yes("closed", Scene.isClosed(x, 6));
        for (int bus = 0; bus < 3; bus++) {
            Check.same("frequency", x.bus(bus, 0), 60000);
            Check.same("phase", x.bus(bus, 1), phase);
        }
    }
}
