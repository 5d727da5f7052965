/** Promises 4, 5 and 17: consumer, ask and look; what DEMAND is. */
public final class ConsumerTest {
    public static void main(String[] args) {
        wrongOnes();
        edges();
        forty();
        askWhenDead();
        askWhenLive();
        askHeavy();
        askWhenStoredOrShed();
        demandOverTime();
        demandOfWaiting();
        wrongNumbers();
        Check.end("ConsumerTest");
    }

    private static void bad(int bus, int cls, int kilowatts, int factor) {
        ShipPower x = new ShipPower();
        String call = "consumer(" + bus + ", " + cls + ", " + kilowatts + ", " + factor + ")";
        Check.refused(call, IllegalArgumentException.class, () -> x.consumer(bus, cls, kilowatts, factor));
        Check.same("none made by " + call, x.count(3), 0);
    }

    private static void wrongOnes() {
        bad(-1, 0, 10, 10);
        bad(3, 0, 10, 10);
        bad(Integer.MIN_VALUE, 0, 10, 10);
        bad(0, -1, 10, 10);
        bad(0, 6, 10, 10);
        bad(0, 0, 0, 10);
        bad(0, 0, -5, 10);
        bad(0, 0, 801, 10);
        bad(0, 0, Integer.MAX_VALUE, 10);
        bad(0, 0, 10, 9);
        bad(0, 0, 10, 61);
    }

    private static void edges() {
        ShipPower x = new ShipPower();
        Check.same("least of all", x.consumer(0, 0, 1, 10), 0);
        Check.same("most of all", x.consumer(2, 5, 800, 60), 1);
        Check.same("two of them", x.count(3), 2);
        Check.same("it is OFF", x.look(0, 0), 0);
        Check.same("without demand", x.look(1, 1), 0);
    }

    private static void forty() {
        ShipPower x = new ShipPower();
        for (int i = 0; i < 40; i++) {
            Check.same("number", x.consumer(i % 3, i % 6, 1 + i, 10), i);
        }
        Check.refused("a 41st", IllegalStateException.class, () -> x.consumer(0, 0, 1, 10));
        Check.refused("a wrong 41st", IllegalArgumentException.class, () -> x.consumer(0, 0, 0, 10));
        Check.same("forty still", x.count(3), 40);
        Check.same("the last can be asked for", x.ask(39, true), Scene.WAITING);
    }

    private static void askWhenDead() {
        ShipPower x = new ShipPower();
        int light = x.consumer(0, 0, 10, 10);
        Check.same("waits", x.ask(light, true), Scene.WAITING);
        Check.same("waits on", x.ask(light, true), Scene.WAITING);
        Check.same("seen so", x.look(light, 0), Scene.WAITING);
        Check.same("no more", x.ask(light, false), 0);
        Check.same("still no more", x.ask(light, false), 0);
        Check.same("no events of that", x.count(5), 0);
    }

    private static void askWhenLive() {
        ShipPower x = Scene.running(0);
        int events = x.count(5);
        int light = x.consumer(1, 0, 199, 60);
        Check.same("at once, also beyond the capacity", x.ask(light, true), Scene.CONNECTED);
        Check.same("its first demand", x.look(light, 1), 1194);
        Check.same("an event", x.count(5), events + 1);
        Check.same("connected", Scene.happened(x, 0), 30 * 10000 + 700 + light);
        Check.same("once more changes nothing", x.ask(light, true), Scene.CONNECTED);
        Check.same("no event of that", x.count(5), events + 1);
        Check.same("off", x.ask(light, false), 0);
        Check.same("its demand then", x.look(light, 1), 0);
        x.tie(false);
        Check.same("its bus is dead now", x.ask(light, true), Scene.WAITING);
    }

    private static void askHeavy() {
        ShipPower x = Scene.running(0);
        int just = x.consumer(0, 0, 200, 50);
        int tooMuch = x.consumer(0, 0, 200, 51);
        int next = x.consumer(0, 0, 199, 10);
        Check.same("more than there is", x.ask(tooMuch, true), Scene.WAITING);
        Check.same("just what there is", x.ask(just, true), Scene.CONNECTED);
        Check.same("a light one does not wait", x.ask(next, true), Scene.CONNECTED);
        Check.same("demand of the group", x.bus(0, 3), 1199);
        x.ask(next, false);
        x.ask(just, false);
        Check.same("it waits until it is asked for or a tick", x.look(tooMuch, 0), Scene.WAITING);
        Check.same("a heavy one of 200", x.ask(x.consumer(0, 0, 800, 12), true), Scene.CONNECTED);
        Check.same("the rest is 40", x.ask(x.consumer(0, 0, 200, 10), true), Scene.WAITING);
    }

    private static void askWhenStoredOrShed() {
        ShipPower x = Scene.running(0);
        int light = Scene.asked(x, 0, 0, 10, 10);
        Scene.run(x, 60);
        Check.same("the ladder is done", x.count(2), 0);
        x.trip(0);
        Scene.run(x, 20);
        Check.same("stored", x.look(light, 0), Scene.STORED);
        Check.same("stays so", x.ask(light, true), Scene.STORED);
        Check.same("until it is asked for no more", x.ask(light, false), 0);

        ShipPower y = Scene.with();
        y.shore(true, 58000);
        y.takeShore();
        y.tick();
        int shed = Scene.asked(y, 0, 0, 10, 10);
        Scene.run(y, 1);
        Check.same("shed", y.look(shed, 0), Scene.SHED);
        Check.same("no demand", y.look(shed, 1), 0);
        Check.same("connected again by ask", y.ask(shed, true), Scene.CONNECTED);
    }

    /** Twenty ticks: those after ask(), and with the one in which a tick connects it. */
    private static void demandOverTime() {
        ShipPower x = Scene.running(0);
        int one = Scene.asked(x, 0, 5, 15, 15);
        Check.same("ahead of its first tick", x.look(one, 1), 22);
        Scene.run(x, 20);
        Check.same("twentieth tick", x.look(one, 1), 22);
        Check.same("the load of that", Scene.load(x, 0), 22);
        Scene.run(x, 1);
        Check.same("after that", x.look(one, 1), 15);
        Check.same("the load too", Scene.load(x, 0), 15);

        ShipPower y = Scene.with(0);
        y.start(0);
        int waits = Scene.asked(y, 0, 5, 100, 13);
        Scene.run(y, 30);
        Check.same("connected in tick 30", y.look(waits, 0), Scene.CONNECTED);
        Check.same("the load does not know of it", Scene.load(y, 0), 0);
        Scene.run(y, 19);
        Check.same("tick 49 is the twentieth", y.look(waits, 1), 130);
        Check.same("load in it", Scene.load(y, 0), 130);
        Scene.run(y, 1);
        Check.same("tick 50", y.look(waits, 1), 100);
        y.ask(waits, false);
        y.ask(waits, true);
        Check.same("it begins anew", y.look(waits, 1), 130);
    }

    private static void demandOfWaiting() {
        ShipPower x = new ShipPower();
        int one = Scene.asked(x, 0, 5, 100, 20);
        Check.same("waiting ones have none", x.look(one, 1), 0);
        Check.same("nor has the group", x.bus(0, 3), 0);
    }

    private static void wrongNumbers() {
        ShipPower x = new ShipPower();
        x.consumer(0, 0, 1, 10);
        int[] wrong = {-1, 1, 40, Integer.MAX_VALUE, Integer.MIN_VALUE};
        for (int number : wrong) {
            Check.refused("ask " + number, IndexOutOfBoundsException.class, () -> x.ask(number, true));
            Check.refused("ask no more " + number, IndexOutOfBoundsException.class, () -> x.ask(number, false));
            Check.refused("look " + number, IndexOutOfBoundsException.class, () -> x.look(number, 0));
        }
        Check.refused("look what -1", IndexOutOfBoundsException.class, () -> x.look(0, -1));
        Check.refused("look what 2", IndexOutOfBoundsException.class, () -> x.look(0, 2));
    }
}
