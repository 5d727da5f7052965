/** Promise 1: a new object. */
public final class NewObjectTest {
    public static void main(String[] args) {
        setsAreOff();
        busesAreDead();
        countsAreNone();
        breakersAtFirst();
        noConsumers();
        noEvents();
        noShore();
        modeIsSea();
        objectsAreApart();
        Check.end("NewObjectTest");
    }

    private static void setsAreOff() {
        ShipPower x = new ShipPower();
        for (int set = 0; set < 6; set++) {
            for (int what = 0; what < 9; what++) {
                Check.same("set(" + set + ", " + what + ")", x.set(set, what), 0);
            }
        }
    }

    private static void busesAreDead() {
        ShipPower x = new ShipPower();
        for (int bus = 0; bus < 3; bus++) {
            for (int what = 0; what < 6; what++) {
                Check.same("bus(" + bus + ", " + what + ")", x.bus(bus, what), 0);
            }
        }
    }

    private static void countsAreNone() {
        ShipPower x = new ShipPower();
        Check.same("tick 0", x.count(0), 0);
        Check.same("no blackout", x.count(1), 0);
        Check.same("the ladder", x.count(2), 0);
        Check.same("none shed", x.count(4), 0);
        Check.same("the tie is not ordered", x.count(7), 0);
        Check.same("nothing stuck", x.count(8), 0);
    }

    /** "At first 6 and 7 are closed, all others open." */
    private static void breakersAtFirst() {
        Check.same("the tie and feeder 7", new ShipPower().count(6), 64 | 128);
    }

    private static void noConsumers() {
        ShipPower x = new ShipPower();
        Check.same("none", x.count(3), 0);
        Check.refused("look", IndexOutOfBoundsException.class, () -> x.look(0, 0));
        Check.refused("ask", IndexOutOfBoundsException.class, () -> x.ask(0, true));
        Check.refused("ask no more", IndexOutOfBoundsException.class, () -> x.ask(0, false));
    }

    private static void noEvents() {
        ShipPower x = new ShipPower();
        Check.same("none", x.count(5), 0);
        Check.refused("event", IndexOutOfBoundsException.class, () -> x.event(0, 0));
    }

    private static void noShore() {
        ShipPower x = new ShipPower();
        Check.no("it cannot be taken", x.takeShore());
        Check.same("OFF", Scene.state(x, 5), Scene.OFF);
    }

    /** Reserve 300: one set of 1000 is enough with a demand of 700, not with 701. */
    private static void modeIsSea() {
        Check.same("demand 700", setsCalled(700), 0);
        Check.same("demand 701", setsCalled(701), 1);
    }

    private static int setsCalled(int kilowatts) {
        ShipPower x = Scene.running(0);
        x.fail(1, 0);
        Scene.asked(x, 0, 5, kilowatts, 10);
        Scene.run(x, 10);
        return Scene.state(x, 1) == Scene.STARTING ? 1 : 0;
    }

    private static void objectsAreApart() {
        ShipPower x = new ShipPower();
        ShipPower y = new ShipPower();
        x.start(0);
        x.stick(6, true);
        x.order(27);
        x.consumer(0, 0, 1, 10);
        x.tick();
        Check.same("the other's set", y.set(0, 0), 0);
        Check.same("the other's consumers", y.count(3), 0);
        Check.same("the other's ticks", y.count(0), 0);
        Check.yes("the other's tie", y.tie(false));
    }
}
