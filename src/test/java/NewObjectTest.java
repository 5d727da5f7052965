/** Promise 1: a new object. */
public final class NewObjectTest {
    public static void main(String[] args) {
        ShipPower x = new ShipPower();
        for (int set = 0; set < 6; set++) {
            for (int what = 0; what < 9; what++) {
                Check.same("set(" + set + ", " + what + ")", x.set(set, what), 0);
            }
        }
        for (int bus = 0; bus < 3; bus++) {
            for (int what = 0; what < 6; what++) {
                Check.same("bus(" + bus + ", " + what + ")", x.bus(bus, what), 0);
            }
        }
        Check.same("tick 0", x.count(0), 0);
        Check.same("no blackout", x.count(1), 0);
        Check.same("the ladder", x.count(2), 0);
        Check.same("no consumers", x.count(3), 0);
        Check.same("none shed", x.count(4), 0);
        Check.same("no events", x.count(5), 0);
        Check.same("the tie and feeder 7 are closed", x.count(6), 192);
        Check.same("the tie is not ordered", x.count(7), 0);
        Check.same("nothing stuck", x.count(8), 0);
        Check.no("no shore", x.takeShore());
        modeIsSea();
        objectsAreApart();
        Check.end("NewObjectTest");
    }

    /** Reserve 300: one set of 1000 is enough with a demand of 700, not with 701. */
    private static void modeIsSea() {
        Check.same("demand 700", setsCalled(700), 0);
        Check.same("demand 701", setsCalled(701), 1);
    }

    private static int setsCalled(int kilowatts) {
        ShipPower x = Scene.running(0);
        x.fail(1, 0);
        Scene.asked(x, 0, 5, kilowatts, 10);
        Scene.run(x, 10);
        return Scene.state(x, 1) == Scene.STARTING ? 1 : 0;
    }

    private static void objectsAreApart() {
        ShipPower x = new ShipPower();
        ShipPower y = new ShipPower();
        x.start(0);
        x.stick(6, true);
        x.order(27);
        x.consumer(0, 0, 1, 10);
        x.tick();
        Check.same("the other's set", y.set(0, 0), 0);
        Check.same("the other's consumers", y.count(3), 0);
        Check.same("the other's ticks", y.count(0), 0);
        Check.yes("the other's tie", y.tie(false));
    }
}
