/** Promise 19: count. */
public final class CountTest {
    public static void main(String[] args) {
        numbers();
        wrongOnes();
        tellingChangesNothing();
        stuck();
        Check.end("CountTest");
    }

    private static void numbers() {
        ShipPower x = Scene.with(0);
        Scene.run(x, 19);
        Check.same("ticks", x.count(0), 19);
        Check.same("no blackout yet", x.count(1), 0);
        Scene.run(x, 1);
        Check.same("a blackout", x.count(1), 1);
        Check.same("the ladder", x.count(2), 1);
        Check.same("events: set 0 and the ladder", x.count(5), 2);
        Scene.run(x, 30);
        Check.same("the ladder when it is live", x.count(2), 2);
        Check.same("breakers", x.count(6), 193);
        Scene.asked(x, 0, 3, 7, 10);
        Check.same("consumers", x.count(3), 1);
        x.tie(false);
        x.tie(true);
        Check.same("ordered", x.count(7), 1);
        Check.same("breakers without the tie", x.count(6), 129);
        Check.same("none shed", x.count(4), 0);
    }

    private static void wrongOnes() {
        ShipPower x = new ShipPower();
        Check.same("-1", x.count(-1), ShipPower.NONE);
        Check.same("9", x.count(9), ShipPower.NONE);
        Check.same("the least", x.count(Integer.MIN_VALUE), ShipPower.NONE);
        Check.same("the greatest", x.count(Integer.MAX_VALUE), ShipPower.NONE);
    }

    private static void tellingChangesNothing() {
        ShipPower x = Scene.running(0);
        for (int what = -1; what < 10; what++) {
            Check.same("twice the same", x.count(what), x.count(what));
        }
        Check.same("ticks", x.count(0), 30);
    }

    /** Every way in which a breaker that sticks is to open or close. */
    private static void stuck() {
        ShipPower x = Scene.running(0);
        x.stick(0, true);
        x.trip(0);
        Check.same("trip", x.count(8), 1);
        x.stick(6, true);
        x.tie(false);
        Check.same("tie", x.count(8), 2);
        x.tie(true);
        Check.same("an order of what is closed", x.count(8), 2);
        Scene.run(x, 10);
        Check.same("quiet ticks", x.count(8), 2);
    }
}
