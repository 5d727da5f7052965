/** Step 7: classes that are shed. */
public final class SheddingTest {
    public static void main(String[] args) {
        byFrequency();
        frequencyEdge();
        byHeat();
        heatEdge();
        noConsumerIsNoShedding();
        groups();
        onlyConnectedOnes();
        deadGroupShedsNothing();
        byHeatOfTheShore();
        byHeatOfTheEmergencySet();
        byHeatOfAnUnloadingSet();
        heatOfAnotherGroup();
        eachTimeIsCounted();
        Check.end("SheddingTest");
    }

    private static void byFrequency() {
        ShipPower x = Scene.onShore(58000);
        int c3 = Scene.asked(x, 0, 3, 10, 10);
        int c1 = Scene.asked(x, 1, 1, 10, 10);
        int c1too = Scene.asked(x, 2, 1, 10, 10);
        int c5 = Scene.asked(x, 0, 5, 10, 10);
        Scene.run(x, 1);
        Check.same("class 1", x.look(c1, 0), Scene.SHED);
        Check.same("class 1, another bus", x.look(c1too, 0), Scene.SHED);
        Check.same("class 3 not yet", x.look(c3, 0), Scene.CONNECTED);
        Check.same("two are shed", x.count(4), 2);
        Check.same("the later event", Scene.happened(x, 0), 20000 + 800 + c1too);
        Check.same("the earlier event", Scene.happened(x, 1), 20000 + 800 + c1);
        Scene.run(x, 19);
        Check.same("19 ticks later", x.look(c3, 0), Scene.CONNECTED);
        Scene.run(x, 1);
        Check.same("20 ticks later", x.look(c3, 0), Scene.SHED);
        Check.same("three", x.count(4), 3);
        Scene.run(x, 60);
        Check.same("class 5 never", x.look(c5, 0), Scene.CONNECTED);
        Check.same("three still", x.count(4), 3);
    }

    private static void frequencyEdge() {
        ShipPower x = Scene.onShore(58500);
        int one = Scene.asked(x, 0, 0, 10, 10);
        Scene.run(x, 30);
        Check.same("58500 is not below", x.look(one, 0), Scene.CONNECTED);
        x.shore(true, 58499);
        Scene.run(x, 1);
        Check.same("58499 is", x.look(one, 0), Scene.SHED);
    }

    /** 1100 on 1000: 100 each tick, 5000 in the fiftieth. */
    private static void byHeat() {
        ShipPower x = Scene.running(0);
        int[] all = new int[11];
        for (int i = 0; i < 11; i++) {
            all[i] = Scene.asked(x, 0, i == 4 ? 4 : 5, 100, 10);
        }
        Scene.run(x, 49);
        Check.same("4900", x.set(0, 2), 4900);
        x.ask(all[5], false);
        Scene.asked(x, 0, 5, 99, 10);
        Scene.run(x, 1);
        Check.same("4999", x.set(0, 2), 4999);
        Check.same("not yet", x.look(all[4], 0), Scene.CONNECTED);
        Scene.asked(x, 0, 5, 1, 10);
        x.ask(all[6], false);
        Scene.asked(x, 0, 5, 1, 10);
        Scene.run(x, 1);
        Check.same("cooler with 1001, by one warmer", x.set(0, 2), 5000);
        Check.same("5000", x.look(all[4], 0), Scene.SHED);
        Check.same("one", x.count(4), 1);
        Scene.run(x, 1);
        Check.same("it cools from then on", x.set(0, 2), 4980);
    }

    private static void heatEdge() {
        ShipPower x = Scene.running(0);
        for (int i = 0; i < 11; i++) {
            Scene.asked(x, 0, 5, 100, 10);
        }
        Scene.run(x, 51);
        x.ask(0, false);
        x.ask(1, false);
        int late = Scene.asked(x, 0, 0, 10, 10);
        Scene.run(x, 1);
        Check.same("5080 still", x.set(0, 2), 5080);
        Check.same("shed at once, nothing having been shed", x.look(late, 0), Scene.SHED);
        x.ask(late, true);
        Scene.run(x, 20);
        Check.same("20 ticks later it is cool", x.look(late, 0), Scene.CONNECTED);
    }

    private static void noConsumerIsNoShedding() {
        ShipPower x = Scene.onShore(58000);
        int five = Scene.asked(x, 0, 5, 10, 10);
        Scene.run(x, 7);
        int zero = Scene.asked(x, 0, 0, 10, 10);
        Scene.run(x, 1);
        Check.same("there was none ahead of it", x.look(zero, 0), Scene.SHED);
        Check.same("class 5 stays", x.look(five, 0), Scene.CONNECTED);
    }

    /** Both sides are low: the latest shedding in any group counts. */
    private static void groups() {
        ShipPower x = Scene.with(2);
        x.tie(false);
        x.start(2);
        Scene.run(x, 30);
        for (int i = 0; i < 11; i++) {
            Scene.asked(x, 1, 5, 100, 10);
        }
        Scene.run(x, 51);
        Check.same("bus 1 is hot", x.set(2, 2), 5100);
        x.shore(true, 58000);
        x.takeShore();
        int at0 = Scene.asked(x, 0, 4, 10, 10);
        int at1 = Scene.asked(x, 1, 0, 10, 10);
        Scene.run(x, 1);
        Check.same("shed at bus 1", x.look(at1, 0), Scene.SHED);
        Check.same("bus 0 is live by now", x.look(at0, 0), Scene.CONNECTED);
        x.ask(at1, true);
        Scene.run(x, 19);
        Check.same("bus 0 is low, but has to wait", x.look(at0, 0), Scene.CONNECTED);
        Scene.run(x, 1);
        Check.same("20 ticks: the first group", x.look(at0, 0), Scene.SHED);
        Check.same("so not the second", x.look(at1, 0), Scene.CONNECTED);
        Scene.run(x, 19);
        Check.same("nor 19 later", x.look(at1, 0), Scene.CONNECTED);
        Scene.run(x, 1);
        Check.same("but 20 later", x.look(at1, 0), Scene.SHED);
        Check.same("three times", x.count(4), 3);
    }

    /** "by groups that are live": of a dead one nothing is shed, low as it was. */
    private static void deadGroupShedsNothing() {
        ShipPower x = Scene.onShore(58000);
        int first = Scene.asked(x, 0, 0, 10, 10);
        int second = Scene.asked(x, 0, 1, 10, 10);
        Scene.run(x, 1);
        Check.same("tick 2", x.look(first, 0), Scene.SHED);
        Scene.run(x, 8);
        x.shore(false, 0);
        Scene.run(x, 15);
        Check.same("tick 25", x.look(second, 0), Scene.CONNECTED);
        Check.same("one is shed", x.count(4), 1);
    }

    /** 40 more than its 600: 5000 in the 125th tick. */
    private static void byHeatOfTheShore() {
        ShipPower x = Scene.onShore(60000);
        int light = Scene.asked(x, 0, 4, 40, 10);
        for (int i = 0; i < 4; i++) {
            Scene.asked(x, 0, 5, 150, 10);
        }
        Scene.run(x, 124);
        Check.same("4960", x.set(5, 2), 4960);
        Check.same("not yet", x.look(light, 0), Scene.CONNECTED);
        Scene.run(x, 1);
        Check.same("5000", x.set(5, 2), 5000);
        Check.same("shed", x.look(light, 0), Scene.SHED);
    }

    private static void byHeatOfTheEmergencySet() {
        ShipPower x = Scene.running(4);
        int light = Scene.asked(x, 2, 3, 40, 10);
        int other = Scene.asked(x, 0, 2, 40, 10);
        Scene.asked(x, 2, 5, 150, 10);
        Scene.asked(x, 2, 5, 50, 10);
        Scene.run(x, 124);
        Check.same("4960", x.set(4, 2), 4960);
        Check.same("not yet", x.look(light, 0), Scene.CONNECTED);
        Scene.run(x, 1);
        Check.same("shed", x.look(light, 0), Scene.SHED);
        Check.same("of another group", x.look(other, 0), Scene.WAITING);
    }

    /** Set 0 is HIGH: 1077 of 1400, and the shore has 323. In the end 0 is sent away, hot as it is. */
    private static void byHeatOfAnUnloadingSet() {
        ShipPower x = Scene.shoreTaken(60000);
        x.fail(0, 0);
        x.start(0);
        x.tick();
        Check.yes("0 comes", x.ticks(1000) < 1000);
        Scene.burden(x, 1400);
        x.fail(0, Scene.HIGH);
        Scene.run(x, 199);
        Check.same("UNLOADING", Scene.state(x, 0), Scene.UNLOADING);
        Check.yes("hot", x.set(0, 2) > 10000);
        Check.same("the shore is not", x.set(5, 2), 0);
        int light = Scene.asked(x, 0, 0, 10, 10);
        Scene.run(x, 1);
        Check.same("UNLOADING still", Scene.state(x, 0), Scene.UNLOADING);
        Check.same("shed", x.look(light, 0), Scene.SHED);
    }

    /** "if a set of it has heat 5000 or more": of it, not of the other side. */
    private static void heatOfAnotherGroup() {
        ShipPower x = Scene.with(0, 2);
        x.tie(false);
        x.start(0);
        x.start(2);
        Scene.run(x, 30);
        for (int i = 0; i < 11; i++) {
            Scene.asked(x, 1, 5, 100, 10);
        }
        int light = Scene.asked(x, 0, 0, 10, 10);
        Scene.run(x, 60);
        Check.same("bus 1 is hot", x.set(2, 2), 6000);
        Check.same("bus 0 is not", x.look(light, 0), Scene.CONNECTED);
        int there = Scene.asked(x, 1, 0, 10, 10);
        Scene.run(x, 1);
        Check.same("of bus 1 it is shed", x.look(there, 0), Scene.SHED);
    }

    /** A consumer that is shed twice counts twice. */
    private static void eachTimeIsCounted() {
        ShipPower x = Scene.onShore(58000);
        int light = Scene.asked(x, 0, 0, 10, 10);
        Scene.run(x, 1);
        x.ask(light, true);
        Scene.run(x, 20);
        Check.same("shed again", x.look(light, 0), Scene.SHED);
        Check.same("two", x.count(4), 2);
        Check.same("two events", Scene.kept(x, 8, light), 2);
    }

    private static void onlyConnectedOnes() {
        ShipPower x = Scene.onShore(58000);
        int off = x.consumer(0, 0, 10, 10);
        int waits = Scene.asked(x, 0, 1, 800, 10);
        int on = Scene.asked(x, 0, 2, 10, 10);
        Scene.run(x, 1);
        Check.same("OFF", x.look(off, 0), 0);
        Check.same("WAITING", x.look(waits, 0), Scene.WAITING);
        Check.same("CONNECTED, so the least class", x.look(on, 0), Scene.SHED);
    }
}
