/** Promises 4, 5 and 17: consumer, ask and look; what DEMAND is. */
public final class ConsumerTest {
    public static void main(String[] args) {
        noSuchBus();
        noSuchClass();
        kilowattsOutside();
        factorOutside();
        edges();
        forty();
        askWhenDead();
        askWhenLive();
        askHeavy();
        askHeavyFrom200();
        askWhenStoredOrShed();
        askForShedOnes();
        askNoMore();
        refusedChangesNothing();
        demandAfterAsk();
        demandAfterATick();
        demandBeginsAnew();
        demandRoundsDown();
        demandOnlyIfConnected();
        askNoneSuch();
        lookAtNoneSuch();
        lookForNoSuchThing();
        lookAtTheLast();
        Check.end("ConsumerTest");
    }

    private static void bad(int bus, int cls, int kilowatts, int factor) {
        ShipPower x = new ShipPower();
        String call = "consumer(" + bus + ", " + cls + ", " + kilowatts + ", " + factor + ")";
        Check.refused(call, IllegalArgumentException.class, () -> x.consumer(bus, cls, kilowatts, factor));
        Check.same("none made by " + call, x.count(3), 0);
    }

    private static final int[] FAR_OFF = {Integer.MAX_VALUE, Integer.MIN_VALUE};

    /** "IllegalArgumentException if there is no such bus" */
    private static void noSuchBus() {
        bad(-1, 0, 10, 10);
        bad(3, 0, 10, 10);
        for (int bus : FAR_OFF) {
            bad(bus, 0, 10, 10);
        }
    }

    /** ".. or class" */
    private static void noSuchClass() {
        bad(0, -1, 10, 10);
        bad(0, 6, 10, 10);
        for (int cls : FAR_OFF) {
            bad(0, cls, 10, 10);
        }
    }

    /** "kilowatts are not 1 .. 800" */
    private static void kilowattsOutside() {
        bad(0, 0, 0, 10);
        bad(0, 0, -5, 10);
        bad(0, 0, 801, 10);
        for (int kilowatts : FAR_OFF) {
            bad(0, 0, kilowatts, 10);
        }
    }

    /** "or the factor not 10 .. 60" */
    private static void factorOutside() {
        bad(0, 0, 10, 9);
        bad(0, 0, 10, 61);
        for (int factor : FAR_OFF) {
            bad(0, 0, 10, factor);
        }
    }

    private static void edges() {
        ShipPower x = new ShipPower();
        Check.same("least of all", x.consumer(0, 0, 1, 10), 0);
        Check.same("most of all", x.consumer(2, 5, 800, 60), 1);
        Check.same("two of them", x.count(3), 2);
        for (int bus = 0; bus < 3; bus++) {
            for (int cls = 0; cls < 6; cls++) {
                Check.same("each bus and class", x.consumer(bus, cls, 10, 10), 2 + 6 * bus + cls);
            }
        }
        Check.same("it is OFF", x.look(0, 0), 0);
        Check.same("without demand", x.look(1, 1), 0);
    }

    private static void forty() {
        ShipPower x = new ShipPower();
        for (int i = 0; i < 40; i++) {
            Check.same("number", x.consumer(i % 3, i % 6, 1 + i, 10), i);
        }
        Check.refused("a 41st", IllegalStateException.class, () -> x.consumer(0, 0, 1, 10));
        Check.refused("a wrong 41st", IllegalArgumentException.class, () -> x.consumer(0, 0, 0, 10));
        Check.same("forty still", x.count(3), 40);
        Check.same("the last can be asked for", x.ask(39, true), Scene.WAITING);
    }

    private static void askWhenDead() {
        ShipPower x = new ShipPower();
        int light = x.consumer(0, 0, 10, 10);
        Check.same("waits", x.ask(light, true), Scene.WAITING);
        Check.same("waits on", x.ask(light, true), Scene.WAITING);
        Check.same("seen so", x.look(light, 0), Scene.WAITING);
        Check.same("no more", x.ask(light, false), 0);
        Check.same("still no more", x.ask(light, false), 0);
        Check.same("no events of that", x.count(5), 0);
    }

    private static void askWhenLive() {
        ShipPower x = Scene.running(0);
        int events = x.count(5);
        int light = x.consumer(1, 0, 199, 60);
        Check.same("at once, also beyond the capacity", x.ask(light, true), Scene.CONNECTED);
        Check.same("its first demand", x.look(light, 1), 1194);
        Check.same("an event", x.count(5), events + 1);
        Check.same("connected", Scene.happened(x, 0), 30 * 10000 + 700 + light);
        Check.same("once more changes nothing", x.ask(light, true), Scene.CONNECTED);
        Check.same("no event of that", x.count(5), events + 1);
        Check.same("off", x.ask(light, false), 0);
        Check.same("its demand then", x.look(light, 1), 0);
        x.tie(false);
        Check.same("its bus is dead now", x.ask(light, true), Scene.WAITING);
    }

    private static void askHeavy() {
        ShipPower x = Scene.running(0);
        int just = x.consumer(0, 0, 200, 50);
        int tooMuch = x.consumer(0, 0, 200, 51);
        int next = x.consumer(0, 0, 199, 10);
        Check.same("more than there is", x.ask(tooMuch, true), Scene.WAITING);
        Check.same("just what there is", x.ask(just, true), Scene.CONNECTED);
        Check.same("a light one does not wait", x.ask(next, true), Scene.CONNECTED);
        Check.same("demand of the group", x.bus(0, 3), 1199);
        x.ask(next, false);
        x.ask(just, false);
        Check.same("it waits until it is asked for or a tick", x.look(tooMuch, 0), Scene.WAITING);
        Check.same("a heavy one of 200", x.ask(x.consumer(0, 0, 800, 12), true), Scene.CONNECTED);
        Check.same("the rest is 40", x.ask(x.consumer(0, 0, 200, 10), true), Scene.WAITING);
    }

    private static void askWhenStoredOrShed() {
        ShipPower x = Scene.running(0);
        int light = Scene.asked(x, 0, 0, 10, 10);
        Scene.run(x, 60);
        Check.same("the ladder is done", x.count(2), 0);
        x.trip(0);
        Scene.run(x, 20);
        Check.same("stored", x.look(light, 0), Scene.STORED);
        Check.same("stays so", x.ask(light, true), Scene.STORED);
        Check.same("until it is asked for no more", x.ask(light, false), 0);

        ShipPower y = Scene.with();
        y.shore(true, 58000);
        y.takeShore();
        y.tick();
        int shed = Scene.asked(y, 0, 0, 10, 10);
        Scene.run(y, 1);
        Check.same("shed", y.look(shed, 0), Scene.SHED);
        Check.same("no demand", y.look(shed, 1), 0);
        Check.same("connected again by ask", y.ask(shed, true), Scene.CONNECTED);
    }

    /** "HEAVY: 200 kilowatts or more": with 199 of 1000 left there is room for a light one of any size. */
    private static void askHeavyFrom200() {
        ShipPower x = Scene.running(0);
        Scene.burden(x, 801);
        Check.same("199 is not heavy", x.ask(x.consumer(0, 5, 199, 60), true), Scene.CONNECTED);

        ShipPower y = Scene.running(0);
        Scene.burden(y, 801);
        Check.same("200 is", y.ask(y.consumer(0, 5, 200, 10), true), Scene.WAITING);

        ShipPower z = Scene.running(0);
        Scene.burden(z, 800);
        Check.same("200 of 200", z.ask(z.consumer(0, 5, 200, 10), true), Scene.CONNECTED);
    }

    /** "with true one that is not CONNECTED and not STORED": a SHED one as any other. */
    private static void askForShedOnes() {
        ShipPower x = Scene.onShore(58000);
        int light = Scene.asked(x, 0, 0, 10, 10);
        int heavy = Scene.asked(x, 0, 0, 300, 20);
        Scene.run(x, 1);
        Check.same("the light one is shed", x.look(light, 0), Scene.SHED);
        Check.same("the heavy one has room by that", x.look(heavy, 0), Scene.CONNECTED);
        Scene.run(x, 20);
        Check.same("the heavy one is shed", x.look(heavy, 0), Scene.SHED);
        Scene.asked(x, 0, 5, 1, 10);
        Check.same("600 of 599", x.ask(heavy, true), Scene.WAITING);
        Check.same("WAITING, and asked again", x.ask(heavy, true), Scene.WAITING);
        x.shore(false, 0);
        Check.same("at a dead bus", x.ask(light, true), Scene.WAITING);
    }

    /** "with false it is OFF": in whatever state it was. */
    private static void askNoMore() {
        ShipPower x = Scene.onShore(58000);
        int shed = Scene.asked(x, 0, 0, 10, 10);
        int connected = Scene.asked(x, 0, 5, 10, 10);
        int stored = Scene.asked(x, 0, 5, 10, 10);
        int waits = Scene.asked(x, 0, 5, 800, 10);
        Scene.run(x, 1);
        int events = x.count(5);
        Check.same("SHED", x.look(shed, 0), Scene.SHED);
        Check.same("off", x.ask(shed, false), 0);
        Check.same("CONNECTED", x.look(connected, 0), Scene.CONNECTED);
        Check.same("off", x.ask(connected, false), 0);
        Check.same("WAITING", x.look(waits, 0), Scene.WAITING);
        Check.same("off", x.ask(waits, false), 0);
        Check.same("OFF", x.ask(waits, false), 0);
        Check.same("no events of that", x.count(5), events);
        x.shore(false, 0);
        Scene.run(x, 20);
        Check.same("STORED", x.look(stored, 0), Scene.STORED);
        Check.same("off", x.ask(stored, false), 0);
        Check.same("seen so", x.look(stored, 0), 0);
        x.shore(true, 60000);
        x.takeShore();
        Scene.run(x, 100);
        Check.same("it does not come back", x.look(stored, 0), 0);
    }

    private static void refusedChangesNothing() {
        ShipPower x = Scene.onShore(60000);
        int light = x.consumer(0, 5, 10, 10);
        int events = x.count(5);
        Check.refused("ask 1", IndexOutOfBoundsException.class, () -> x.ask(1, true));
        Check.refused("ask -1", IndexOutOfBoundsException.class, () -> x.ask(-1, true));
        Check.same("OFF", x.look(light, 0), 0);
        Check.same("no events", x.count(5), events);
    }

    /** "in the first 20 ticks of that (.. if that was between ticks, the next one), then its kilowatts" */
    private static void demandAfterAsk() {
        ShipPower x = Scene.running(0);
        int one = Scene.asked(x, 0, 5, 15, 20);
        Check.same("ahead of its first tick", x.look(one, 1), 30);
        Scene.run(x, 20);
        Check.same("twentieth tick", x.look(one, 1), 30);
        Check.same("the load of that", Scene.load(x, 0), 30);
        Scene.run(x, 1);
        Check.same("after that", x.look(one, 1), 15);
        Check.same("the load too", Scene.load(x, 0), 15);
    }

    /** "(the tick in which it was connected is the first ..)" */
    private static void demandAfterATick() {
        ShipPower x = Scene.with(0);
        x.start(0);
        int waits = Scene.asked(x, 0, 5, 100, 13);
        Scene.run(x, 30);
        Check.same("connected in tick 30", x.look(waits, 0), Scene.CONNECTED);
        Check.same("its demand", x.look(waits, 1), 130);
        Check.same("the load does not know of it", Scene.load(x, 0), 0);
        Scene.run(x, 19);
        Check.same("tick 49 is the twentieth", x.look(waits, 1), 130);
        Check.same("load in it", Scene.load(x, 0), 130);
        Scene.run(x, 1);
        Check.same("tick 50", x.look(waits, 1), 100);
        Check.same("load in it", Scene.load(x, 0), 100);
    }

    private static void demandBeginsAnew() {
        ShipPower x = Scene.running(0);
        int one = Scene.asked(x, 0, 5, 100, 13);
        Scene.run(x, 30);
        Check.same("its kilowatts", x.look(one, 1), 100);
        x.ask(one, true);
        Check.same("asked for once more", x.look(one, 1), 100);
        x.ask(one, false);
        x.ask(one, true);
        Check.same("connected anew", x.look(one, 1), 130);
        Scene.run(x, 20);
        Check.same("for 20 ticks", x.look(one, 1), 130);
        Scene.run(x, 1);
        Check.same("no longer", x.look(one, 1), 100);
    }

    /** "kilowatts * factor / 10", "Quotients are rounded down." */
    private static void demandRoundsDown() {
        int[][] due = {{15, 15, 22}, {1, 19, 1}, {1, 20, 2}, {199, 59, 1174}, {1, 10, 1}, {33, 33, 108}};
        ShipPower x = Scene.running(0);
        for (int[] one : due) {
            int number = Scene.asked(x, 0, 5, one[0], one[1]);
            Check.same(one[0] + " by " + one[1], x.look(number, 1), one[2]);
        }
    }

    /** "Its DEMAND is 0 if it is not CONNECTED" */
    private static void demandOnlyIfConnected() {
        ShipPower x = Scene.onShore(58000);
        int off = x.consumer(0, 5, 100, 20);
        int shed = Scene.asked(x, 0, 0, 100, 10);
        int waits = Scene.asked(x, 0, 5, 700, 20);
        int stored = Scene.asked(x, 0, 5, 100, 20);
        Check.same("CONNECTED", x.look(stored, 1), 200);
        Scene.run(x, 1);
        Check.same("OFF", x.look(off, 1), 0);
        Check.same("SHED is its state", x.look(shed, 0), Scene.SHED);
        Check.same("SHED", x.look(shed, 1), 0);
        Check.same("WAITING is its state", x.look(waits, 0), Scene.WAITING);
        Check.same("WAITING", x.look(waits, 1), 0);
        Check.same("the group's", x.bus(0, 3), 200);
        x.shore(false, 0);
        Scene.run(x, 20);
        Check.same("STORED is its state", x.look(stored, 0), Scene.STORED);
        Check.same("STORED", x.look(stored, 1), 0);
        Check.same("the group's then", x.bus(0, 3), 0);
    }

    private static final int[] NONE_SUCH = {-1, 1, 40, Integer.MAX_VALUE, Integer.MIN_VALUE};

    /** "IndexOutOfBoundsException if there is none such": only consumer 0 is there. */
    private static void askNoneSuch() {
        ShipPower x = new ShipPower();
        x.consumer(0, 0, 1, 10);
        for (int number : NONE_SUCH) {
            Check.refused("ask " + number, IndexOutOfBoundsException.class, () -> x.ask(number, true));
            Check.refused("ask no more " + number, IndexOutOfBoundsException.class, () -> x.ask(number, false));
        }
    }

    private static void lookAtNoneSuch() {
        ShipPower x = new ShipPower();
        x.consumer(0, 0, 1, 10);
        for (int number : NONE_SUCH) {
            Check.refused("look " + number, IndexOutOfBoundsException.class, () -> x.look(number, 0));
            Check.refused("look " + number, IndexOutOfBoundsException.class, () -> x.look(number, 1));
        }
    }

    private static void lookForNoSuchThing() {
        ShipPower x = new ShipPower();
        x.consumer(0, 0, 1, 10);
        int[] wrong = {-1, 2, Integer.MAX_VALUE, Integer.MIN_VALUE};
        for (int what : wrong) {
            Check.refused("look what " + what, IndexOutOfBoundsException.class, () -> x.look(0, what));
        }
    }

    private static void lookAtTheLast() {
        ShipPower x = new ShipPower();
        for (int i = 0; i < 40; i++) {
            x.consumer(0, 0, 1, 10);
        }
        Check.same("its state", x.look(39, 0), 0);
        Check.same("its demand", x.look(39, 1), 0);
        Check.refused("the next", IndexOutOfBoundsException.class, () -> x.look(40, 0));
    }
}
