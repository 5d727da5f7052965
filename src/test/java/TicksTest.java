/** Promises 6 and 7: tick and ticks. */
public final class TicksTest {
    public static void main(String[] args) {
        tick();
        ticks();
        ticksOfOne();
        ticksUntilOtherBreakers();
        wrongOnes();
        Check.end("TicksTest");
    }

    private static void tick() {
        ShipPower x = Scene.with(0);
        x.start(0);
        for (int i = 1; i < 30; i++) {
            Check.same("tick " + i, x.tick(), Scene.TIE_AND_FEEDER);
            Check.same("its number", x.count(0), i);
        }
        Check.same("set 0 closes", x.tick(), Scene.TIE_AND_FEEDER | 1);
        Check.same("as count tells", x.count(6), Scene.TIE_AND_FEEDER | 1);
    }

    private static void ticks() {
        ShipPower x = Scene.with(0);
        x.start(0);
        Check.same("most are done", x.ticks(29), 29);
        Check.same("one", x.ticks(1), 1);
        Check.same("with a change in it", Scene.state(x, 0), Scene.ON);
        Check.same("no change: a thousand", x.ticks(1000), 1000);
        Check.same("ticks so far", x.count(0), 1030);
        x.trip(0);
        Check.same("a change ahead of the call is none", x.ticks(5), 5);

        ShipPower y = Scene.with(0);
        y.start(0);
        Check.same("until the breakers change", y.ticks(1000), 30);
        Check.same("and no further", y.count(0), 30);
    }

    /** "1 .. 1000": both ends, and a change in the first of many. */
    private static void ticksOfOne() {
        ShipPower x = Scene.with();
        Check.same("least", x.ticks(1), 1);
        Check.same("ticks so far", x.count(0), 1);
        Check.same("most", x.ticks(1000), 1000);
        Check.same("ticks so far", x.count(0), 1001);
        x.shore(true, 60000);
        x.takeShore();
        Check.same("a change in the first", x.ticks(1000), 1);
        Check.same("the shore is ON", x.count(6), Scene.TIE_AND_FEEDER | 32);
    }

    /** "until the closed breakers change": the tie and the feeders, too, and an opening. */
    private static void ticksUntilOtherBreakers() {
        ShipPower x = Scene.with(4);
        x.tie(false);
        x.tie(true);
        Check.same("the tie", x.ticks(100), 1);
        Check.same("closed", x.count(6), Scene.TIE_AND_FEEDER);
        x.start(4);
        Check.same("feeder 7 and set 4", x.ticks(100), 30);
        x.trip(4);
        x.fail(0, 0);
        x.start(0);
        Check.same("feeder 7 and set 0", x.ticks(100), 30);
        Check.same("closed", x.count(6), Scene.TIE_AND_FEEDER | 1);
        Scene.burden(x, 1200);
        Check.same("set 0 trips by heat", x.ticks(1000), 100);
        Check.same("open", x.count(6), Scene.TIE_AND_FEEDER);
    }

    private static void wrongOnes() {
        ShipPower x = new ShipPower();
        int[] wrong = {0, -1, 1001, Integer.MAX_VALUE, Integer.MIN_VALUE};
        for (int most : wrong) {
            Check.refused("ticks(" + most + ")", IllegalArgumentException.class, () -> x.ticks(most));
        }
        Check.same("no tick was done", x.count(0), 0);
    }
}
