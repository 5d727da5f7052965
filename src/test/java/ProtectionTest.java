/** Step 6: heat, the watch, low frequency. */
public final class ProtectionTest {
    public static void main(String[] args) {
        heat();
        heatFalls();
        heatTrips();
        heatJustBelow();
        heatWhileItSticks();
        heatByNumbers();
        watchEdge();
        watchByNumbers();
        watchBySumOfRatings();
        watchBelowTheEdge();
        watchRoundsDown();
        watchCountsOnlyOnes();
        watchFrom100On();
        watchIsBrokenOff();
        watchForgetsWhatLeft();
        watchNeedsThree();
        watchWhileItSticks();
        watchIsNotOfTheShore();
        lowIsBelow57000();
        lowFrom20On();
        lowIsBrokenOff();
        lowFrequencyTripsAll();
        lowFrequencyWhileItSticks();
        lowIsKeptForTheLead();
        lowEndsWithADeadGroup();
        lowByGroups();
        lowTripsUnloadingOnes();
        lowOfBus2Alone();
        Check.end("ProtectionTest");
    }

    private static void heat() {
        ShipPower x = Scene.running(0);
        Scene.burden(x, 1000);
        Scene.run(x, 10);
        Check.same("the rating is not above it", x.set(0, 2), 0);
        Scene.burden(x, 7);
        Scene.run(x, 10);
        Check.same("seven each tick", x.set(0, 2), 70);
    }

    private static void heatFalls() {
        ShipPower x = Scene.running(0);
        Scene.burden(x, 1000);
        int more = Scene.asked(x, 0, 5, 50, 10);
        Scene.run(x, 1);
        x.ask(more, false);
        Check.same("heat", x.set(0, 2), 50);
        Scene.run(x, 1);
        Check.same("just the rating", Scene.load(x, 0), 1000);
        Check.same("20 less", x.set(0, 2), 30);
        x.ask(0, false);
        Scene.run(x, 1);
        Check.same("20 less", x.set(0, 2), 10);
        Scene.run(x, 1);
        Check.same("not below 0", x.set(0, 2), 0);
    }

    /** Of class 5, so that nothing is shed. */
    private static void heatTrips() {
        ShipPower x = Scene.running(0);
        Scene.burden(x, 1200);
        Scene.run(x, 99);
        Check.same("19800", x.set(0, 2), 19800);
        Scene.run(x, 1);
        Check.same("20000", Scene.state(x, 0), Scene.COOLING);
        Check.same("200 left", x.set(0, 6), 200);
        Check.same("no heat", x.set(0, 2), 0);
        Check.same("the event", Scene.happened(x, 0), 130 * 10000 + 300);
        Check.same("breakers", x.count(6), 192);
    }

    private static void heatJustBelow() {
        ShipPower x = Scene.running(0);
        Scene.burden(x, 1199);
        int one = Scene.asked(x, 0, 5, 1, 10);
        Scene.run(x, 99);
        x.ask(one, false);
        Scene.run(x, 1);
        Check.same("19999", x.set(0, 2), 19999);
        Check.same("ON", Scene.state(x, 0), Scene.ON);
    }

    private static void heatWhileItSticks() {
        ShipPower x = Scene.running(0);
        Scene.burden(x, 1200);
        x.stick(0, true);
        Scene.run(x, 105);
        Check.same("ON", Scene.state(x, 0), Scene.ON);
        Check.same("heat grows on", x.set(0, 2), 21000);
        Check.same("six times", x.count(8), 6);
        x.stick(0, false);
        Scene.run(x, 1);
        Check.same("then it trips", Scene.state(x, 0), Scene.COOLING);
    }

    /** "sets that are ON or UNLOADING, by numbers" */
    private static void heatByNumbers() {
        ShipPower x = Scene.running(0, 1, 2);
        Scene.burden(x, 3600);
        Scene.run(x, 99);
        Check.same("19800", x.set(2, 2), 19800);
        Scene.run(x, 1);
        Check.same("2 is the last", Scene.happened(x, 0), 130 * 10000 + 302);
        Check.same("then 1", Scene.happened(x, 1), 130 * 10000 + 301);
        Check.same("then 0", Scene.happened(x, 2), 130 * 10000 + 300);
    }

    /** All three are off: 497 and 995 where 663 are due. With 0 gone, the others are too few to tell. */
    private static void watchByNumbers() {
        ShipPower x = Scene.running(0, 1, 2);
        Scene.burden(x, 1990);
        x.fail(1, Scene.HIGH);
        Scene.run(x, 100);
        Check.same("0 is the first", Scene.state(x, 0), Scene.BLOCKED);
        Check.same("1 stays", Scene.state(x, 1), Scene.ON);
        Check.same("2 stays", Scene.state(x, 2), Scene.ON);
    }

    /** The shore counts: 281 of 2600 are due, and 407 are 126 away of that; 732 make it 406. */
    private static void watchBySumOfRatings() {
        int[] demands = {732, 733};
        int[] due = {Scene.ON, Scene.BLOCKED};
        for (int i = 0; i < 2; i++) {
            ShipPower x = Scene.shoreTaken(60000);
            x.fail(0, 0);
            x.fail(1, 0);
            x.start(0);
            x.start(1);
            x.tick();
            for (int k = 0; k < 300 && (Scene.state(x, 0) != Scene.ON || Scene.state(x, 1) != Scene.ON); k++) {
                x.tick();
            }
            Scene.burden(x, demands[i]);
            x.fail(1, Scene.HIGH);
            Scene.run(x, 100);
            Check.same("of " + demands[i], Scene.state(x, 1), due[i]);
        }
    }

    /** Shares D/4, D/2, D/4 where D/3 each is due: D/6 is off by 125 with 750, by 126 with 756. */
    private static void watchEdge() {
        ShipPower x = Scene.running(0, 1, 2);
        Scene.burden(x, 750);
        x.fail(1, Scene.HIGH);
        Scene.run(x, 150);
        Check.same("375 for 250", Scene.load(x, 1), 375);
        Check.same("rating / 8 is not too much", Scene.state(x, 1), Scene.ON);

        ShipPower y = Scene.running(0, 1, 2);
        Scene.burden(y, 756);
        y.fail(1, Scene.HIGH);
        Scene.run(y, 99);
        Check.same("99 ticks", Scene.state(y, 1), Scene.ON);
        Scene.run(y, 1);
        Check.same("100 ticks", Scene.state(y, 1), Scene.BLOCKED);
        Check.same("the event", Scene.happened(y, 0), 130 * 10000 + 401);
        Check.same("breakers", y.count(6), 192 | 1 | 4);
        Check.same("no load", Scene.load(y, 1), 0);
        Check.same("no tries", y.set(1, 7), 0);
        y.fail(1, 0);
        Check.same("mended", Scene.state(y, 1), Scene.OFF);

        ShipPower z = Scene.running(0, 1, 2);
        Scene.burden(z, 756);
        z.fail(1, Scene.LOW);
        Scene.run(z, 100);
        Check.same("LOW: 84 for 252", Scene.state(z, 1), Scene.BLOCKED);
    }

    /** LOW: a ninth where a third is due, 2/9 below: 125 with 563, 126 with 564. */
    private static void watchBelowTheEdge() {
        ShipPower x = Scene.running(0, 1, 2);
        Scene.burden(x, 564);
        x.fail(2, Scene.LOW);
        Scene.run(x, 99);
        Check.same("62 for 188", Scene.load(x, 2), 62);
        Check.same("99 ticks", Scene.state(x, 2), Scene.ON);
        Scene.run(x, 1);
        Check.same("100 ticks", Scene.state(x, 2), Scene.BLOCKED);
    }

    /** "Quotients are rounded down": 187.67 less 62 would be more than 125. */
    private static void watchRoundsDown() {
        ShipPower x = Scene.running(0, 1, 2);
        Scene.burden(x, 563);
        x.fail(2, Scene.LOW);
        Scene.run(x, 150);
        Check.same("62 for 187", Scene.load(x, 2), 62);
        Check.same("just 125 away", Scene.state(x, 2), Scene.ON);
    }

    /** "by ratings of all sets of its group that are ON alone", "at least two others ON": UNLOADING ones are none. */
    private static void watchCountsOnlyOnes() {
        ShipPower x = Scene.running(0, 1, 2);
        Scene.run(x, 190);
        Check.same("2 goes", Scene.state(x, 2), Scene.UNLOADING);
        x.stick(2, true);
        Scene.run(x, 25);
        x.mode(3);
        Scene.burden(x, 900);
        x.fail(1, Scene.HIGH);
        Scene.run(x, 150);
        Check.same("600 for 450", Scene.load(x, 1), 600);
        Check.same("2 is there, but not ON", Scene.state(x, 2), Scene.UNLOADING);
        Check.same("so 1 stays", Scene.state(x, 1), Scene.ON);
        Check.same("an UNLOADING one is not watched", x.count(8), 157);
    }

    private static void watchIsBrokenOff() {
        ShipPower x = Scene.running(0, 1, 2);
        Scene.burden(x, 756);
        x.fail(1, Scene.HIGH);
        Scene.run(x, 60);
        x.fail(1, 0);
        Scene.run(x, 1);
        x.fail(1, Scene.HIGH);
        Scene.run(x, 99);
        Check.same("99 ticks anew", Scene.state(x, 1), Scene.ON);
        Scene.run(x, 1);
        Check.same("100 ticks", Scene.state(x, 1), Scene.BLOCKED);
    }

    /** Set 1 is off for 60 ticks, leaves, and comes back as wrong as it was. */
    private static void watchForgetsWhatLeft() {
        ShipPower x = Scene.running(0, 1, 2);
        Scene.burden(x, 756);
        x.mode(3);
        Scene.asked(x, 0, 5, 300, 10);
        x.fail(1, Scene.HIGH);
        Scene.run(x, 60);
        x.trip(1);
        Scene.run(x, 210);
        Check.same("called again", Scene.state(x, 1), Scene.STARTING);
        Check.yes("it comes", x.ticks(500) < 500);
        Check.same("ON", Scene.state(x, 1), Scene.ON);
        Scene.run(x, 98);
        Check.same("99 ticks", Scene.state(x, 1), Scene.ON);
        Scene.run(x, 1);
        Check.same("100 ticks", Scene.state(x, 1), Scene.BLOCKED);
    }

    private static void watchNeedsThree() {
        ShipPower x = Scene.running(0, 1);
        Scene.burden(x, 900);
        x.fail(1, Scene.HIGH);
        Scene.run(x, 150);
        Check.same("600 for 450", Scene.load(x, 1), 600);
        Check.same("two cannot tell who is wrong", Scene.state(x, 1), Scene.ON);
    }

    private static void watchWhileItSticks() {
        ShipPower x = Scene.running(0, 1, 2);
        Scene.burden(x, 756);
        x.fail(1, Scene.HIGH);
        x.stick(1, true);
        Scene.run(x, 102);
        Check.same("ON", Scene.state(x, 1), Scene.ON);
        Check.same("three times", x.count(8), 3);
        x.stick(1, false);
        Scene.run(x, 1);
        Check.same("BLOCKED", Scene.state(x, 1), Scene.BLOCKED);
    }

    /** Sets 0 and 1 LOW: 250, 250 and 600 of the shore; it is far off, and so are they. */
    private static void watchIsNotOfTheShore() {
        ShipPower x = Scene.running(0, 1);
        Scene.run(x, 60);
        x.shore(true, 60370);
        x.takeShore();
        x.mode(3);
        Scene.burden(x, 550);
        int waited = 0;
        while (Scene.state(x, 5) != Scene.ON && waited < 300) {
            x.tick();
            waited++;
        }
        Check.same("ON", Scene.state(x, 5), Scene.ON);
        x.fail(0, Scene.LOW);
        x.fail(1, Scene.LOW);
        Scene.run(x, 9);
        Check.same("550 * 600 / 1100", Scene.load(x, 5), 300);
        Check.same("125 where 211 is due", Scene.load(x, 0), 125);
        Scene.asked(x, 0, 5, 251, 10);
        Scene.run(x, 99);
        Check.same("99 ticks", Scene.state(x, 1), Scene.ON);
        Scene.run(x, 1);
        // Of 801 there are 183, with the one left over, and 182, where 308 are due to each.
        Check.same("0 just passes", Scene.state(x, 0), Scene.ON);
        Check.same("1 does not", Scene.state(x, 1), Scene.BLOCKED);
        Check.same("the shore is not looked at", Scene.state(x, 5), Scene.ON);
    }

    /** "if the frequency is below 57000" */
    private static void lowIsBelow57000() {
        ShipPower x = Scene.shoreTaken(57000);
        Scene.run(x, 60);
        Check.same("57000 is not", Scene.state(x, 5), Scene.ON);
        x.shore(true, 56999);
        Scene.run(x, 60);
        Check.same("56999 is", Scene.state(x, 5), Scene.COOLING);
    }

    /** "from 20 on all sets of it .. trip" */
    private static void lowFrom20On() {
        ShipPower x = Scene.shoreTaken(56999);
        Scene.run(x, 19);
        Check.same("19 ticks", Scene.state(x, 5), Scene.ON);
        Scene.run(x, 1);
        Check.same("20 ticks", Scene.state(x, 5), Scene.COOLING);
        Check.same("200 left", x.set(5, 6), 200);
    }

    /** "else .. none" */
    private static void lowIsBrokenOff() {
        ShipPower x = Scene.shoreTaken(56999);
        Scene.run(x, 15);
        x.shore(true, 57000);
        Scene.run(x, 1);
        x.shore(true, 56999);
        Scene.run(x, 19);
        Check.same("19 ticks anew", Scene.state(x, 5), Scene.ON);
        Scene.run(x, 1);
        Check.same("20 ticks", Scene.state(x, 5), Scene.COOLING);
    }

    /** "from 100 on its breaker opens, and it is BLOCKED" */
    private static void watchFrom100On() {
        ShipPower x = Scene.running(0, 1, 2);
        Scene.burden(x, 900);
        x.fail(0, Scene.HIGH);
        Scene.run(x, 99);
        Check.same("99 ticks", Scene.state(x, 0), Scene.ON);
        Scene.run(x, 1);
        Check.same("100 ticks", Scene.state(x, 0), Scene.BLOCKED);
        Check.no("open", Scene.isClosed(x, 0));
    }

    private static void lowFrequencyTripsAll() {
        ShipPower x = Scene.shoreTaken(60000);
        x.fail(0, 0);
        x.fail(2, 0);
        x.start(0);
        x.start(2);
        x.ticks(1);
        Check.yes("they come", x.ticks(1000) < 1000);
        Check.same("all three", x.count(6), 192 | 1 | 4 | 32);
        // 56960 after 76 ticks.
        x.shore(true, 55000);
        Scene.run(x, 94);
        Check.same("19 ticks", x.count(6), 192 | 1 | 4 | 32);
        Scene.run(x, 1);
        Check.same("20 ticks", x.count(6), 192);
        Check.same("0", Scene.state(x, 0), Scene.COOLING);
        Check.same("by numbers: 5 is the last", x.event(0, 2), 5);
        Check.same("2", x.event(1, 2), 2);
        Check.same("0", x.event(2, 2), 0);
    }

    private static void lowFrequencyWhileItSticks() {
        ShipPower x = Scene.shoreTaken(56000);
        x.tick();
        x.stick(5, true);
        Scene.run(x, 21);
        Check.same("ON", Scene.state(x, 5), Scene.ON);
        Check.same("ticks 20, 21, 22", x.count(8), 3);
        x.stick(5, false);
        Scene.run(x, 1);
        Check.same("COOLING", Scene.state(x, 5), Scene.COOLING);
    }

    /** "else (or if it is not live) none": 15 ticks low, one dead, and 19 low again. */
    private static void lowEndsWithADeadGroup() {
        ShipPower x = Scene.shoreTaken(56999);
        Scene.run(x, 15);
        x.shore(false, 0);
        Scene.run(x, 1);
        x.shore(true, 56999);
        x.takeShore();
        Scene.run(x, 19);
        Check.same("19 ticks anew", Scene.state(x, 5), Scene.ON);
        Scene.run(x, 1);
        Check.same("20 ticks", Scene.state(x, 5), Scene.COOLING);
    }

    /** Shore and set 2 at 55000, as long as their breakers stick; the tie is open then. */
    private static ShipPower bothSidesLow() {
        ShipPower x = Scene.shoreTaken(60000);
        x.fail(2, 0);
        x.start(2);
        x.ticks(1);
        Check.yes("2 comes", x.ticks(1000) < 1000);
        x.stick(5, true);
        x.stick(2, true);
        x.shore(true, 55000);
        Scene.run(x, 130);
        Check.same("55000", x.bus(1, 0), 55000);
        x.tie(false);
        return x;
    }

    /** "Group by group": that of bus 0 first. */
    private static void lowByGroups() {
        ShipPower x = bothSidesLow();
        Scene.run(x, 19);
        x.stick(5, false);
        x.stick(2, false);
        x.tick();
        Check.same("2 is COOLING", Scene.happened(x, 0) % 10000, 302);
        Check.same("5 was ahead of it", Scene.happened(x, 1) % 10000, 305);
        Check.same("both in one tick", x.event(0, 0), x.event(1, 0));
    }

    /** "all sets of it": one that is UNLOADING trips with the others, and cools for 200. */
    private static void lowTripsUnloadingOnes() {
        ShipPower x = Scene.shoreTaken(60000);
        x.fail(0, 0);
        x.start(0);
        x.tick();
        Check.yes("0 comes", x.ticks(1000) < 1000);
        x.stick(0, true);
        Scene.run(x, 230);
        Check.same("UNLOADING", Scene.state(x, 0), Scene.UNLOADING);
        x.shore(true, 56999);
        Scene.run(x, 94);
        Check.same("low for 19 ticks", x.bus(0, 0), 56999);
        x.stick(0, false);
        x.tick();
        Check.same("COOLING", Scene.state(x, 0), Scene.COOLING);
        Check.same("by a trip", x.set(0, 6), 200);
    }

    /** Bus 1 is low for 11 ticks as a lead of its own, for 2 with bus 0 as its lead, and then for 9 again. */
    private static void lowIsKeptForTheLead() {
        ShipPower x = Scene.shoreTaken(60000);
        x.fail(2, 0);
        x.start(2);
        x.ticks(1);
        Check.yes("2 comes", x.ticks(1000) < 1000);
        x.stick(5, true);
        x.stick(2, true);
        x.shore(true, 55000);
        Scene.run(x, 130);
        Check.same("55000", x.bus(1, 0), 55000);
        x.tie(false);
        x.stick(2, false);
        Scene.run(x, 10);
        x.shore(false, 0);
        Scene.run(x, 1);
        x.tie(true);
        Scene.run(x, 2);
        Check.same("one group", x.bus(1, 2), 0);
        x.tie(false);
        Scene.run(x, 8);
        Check.same("19 ticks", Scene.state(x, 2), Scene.ON);
        Check.same("low still", x.bus(1, 0), 55000 + 21 * 40);
        Scene.run(x, 1);
        Check.same("20 ticks", Scene.state(x, 2), Scene.COOLING);
    }

    /**
     * Set 4 alone is brought below 57000 with so little above its rating that its heat stays below 20000; freed of
     * all load it rises again, too late.
     */
    private static void lowOfBus2Alone() {
        ShipPower x = Scene.running(4);
        Scene.asked(x, 2, 5, 199, 10);
        Scene.asked(x, 2, 5, 61, 10);
        for (int i = 1; i <= 6; i++) {
            Scene.asked(x, 2, 5, 67, 10);
            Scene.run(x, 10);
            Check.same("40 less each tick", x.bus(2, 0), 59040 - 400 * i);
        }
        Scene.asked(x, 2, 5, 67, 10);
        Scene.run(x, 2);
        Check.same("low for 11 ticks", x.bus(2, 0), 56560);
        Check.yes("heat is " + x.set(4, 2), x.set(4, 2) < 20000);
        for (int i = 0; i < x.count(3); i++) {
            x.ask(i, false);
        }
        Scene.run(x, 8);
        Check.same("19 ticks", Scene.state(x, 4), Scene.ON);
        Check.same("40 more each tick", x.bus(2, 0), 56880);
        Scene.run(x, 1);
        Check.same("20 ticks", Scene.state(x, 4), Scene.COOLING);
        Check.same("by a trip", x.set(4, 6), 200);
    }
}
