/** Promises 6 and 7: tick and ticks. */
public final class TicksTest {
    public static void main(String[] args) {
        tick();
        ticks();
        wrongOnes();
        Check.end("TicksTest");
    }

    private static void tick() {
        ShipPower x = Scene.with(0);
        x.start(0);
        for (int i = 1; i < 30; i++) {
            Check.same("tick " + i, x.tick(), Scene.TIE_AND_FEEDER);
            Check.same("its number", x.count(0), i);
        }
        Check.same("set 0 closes", x.tick(), Scene.TIE_AND_FEEDER | 1);
        Check.same("as count tells", x.count(6), Scene.TIE_AND_FEEDER | 1);
    }

    private static void ticks() {
        ShipPower x = Scene.with(0);
        x.start(0);
        Check.same("most are done", x.ticks(29), 29);
        Check.same("one", x.ticks(1), 1);
        Check.same("with a change in it", Scene.state(x, 0), Scene.ON);
        Check.same("no change: a thousand", x.ticks(1000), 1000);
        Check.same("ticks so far", x.count(0), 1030);
        x.trip(0);
        Check.same("a change ahead of the call is none", x.ticks(5), 5);

        ShipPower y = Scene.with(0);
        y.start(0);
        Check.same("until the breakers change", y.ticks(1000), 30);
        Check.same("and no further", y.count(0), 30);
    }

    private static void wrongOnes() {
        ShipPower x = new ShipPower();
        int[] wrong = {0, -1, 1001, Integer.MAX_VALUE, Integer.MIN_VALUE};
        for (int most : wrong) {
            Check.refused("ticks(" + most + ")", IllegalArgumentException.class, () -> x.ticks(most));
        }
        Check.same("no tick was done", x.count(0), 0);
    }
}
