/** Plants that many tests begin with, and names for numbers of the document. */
final class Scene {
    static final int OFF = 0;
    static final int STARTING = 1;
    static final int IDLE = 2;
    static final int ON = 3;
    static final int UNLOADING = 4;
    static final int COOLING = 5;
    static final int BLOCKED = 6;

    static final int NO_START = 1;
    static final int HIGH = 2;
    static final int LOW = 3;
    static final int NODE_DEAD = 4;

    static final int CONNECTED = 1;
    static final int WAITING = 2;
    static final int SHED = 3;
    static final int STORED = 4;

    static final int TIE_AND_FEEDER = 1 << 6 | 1 << 7;

    private Scene() {
    }

    /** Just so many ticks, whatever the breakers do; in few calls, for an object is good for 512. */
    static void run(ShipPower x, int ticks) {
        int left = ticks;
        while (left > 0) {
            int done = x.ticks(Math.min(left, 1000));
            if (done < 1) {
                throw new AssertionError("ticks() did " + done);
            }
            left -= done;
        }
    }

    static void kill(ShipPower x, int... sets) {
        for (int set : sets) {
            x.fail(set, NODE_DEAD);
        }
    }

    /** A plant that only has these sets: all others of 0 .. 4 are NODE DEAD, which keeps the manager from them. */
    static ShipPower with(int... sets) {
        ShipPower x = new ShipPower();
        kill(x, 0, 1, 2, 3, 4);
        for (int set : sets) {
            x.fail(set, 0);
        }
        return x;
    }

    /** The same, and these are started: in tick 30 all of one group are ON, having begun in step. */
    static ShipPower running(int... sets) {
        ShipPower x = with(sets);
        for (int set : sets) {
            x.start(set);
        }
        run(x, 30);
        return x;
    }

    /** A consumer that is asked for at once: its number. */
    static int asked(ShipPower x, int bus, int cls, int kilowatts, int factor) {
        int number = x.consumer(bus, cls, kilowatts, factor);
        x.ask(number, true);
        return number;
    }

    /** A demand of bus 0 that is there at once and never shed: in parts below 200, for heavy ones may wait. */
    static void burden(ShipPower x, int kilowatts) {
        for (int rest = kilowatts; rest > 0; rest -= 199) {
            asked(x, 0, 5, Math.min(rest, 199), 10);
        }
    }

    /**
     * Set 0 alone, with 500 of its 1000: the bus runs at 60000, so that its phase, growing by three rounds a tick,
     * stands still, at a multiple of nine that is asked for. Consumers 0, 1 and 2 are the 500; 3 and 4 are OFF.
     */
    static ShipPower standing(int phase) {
        ShipPower x = running(0);
        burden(x, 500);
        run(x, 100);
        turnBack(x, 0, Math.floorMod(x.bus(0, 1) - phase, 180000));
        return x;
    }

    /** Two consumers slow a bus that stands still down: 34 of 1000 by 40 millihertz, 1 by one. */
    static void turnBack(ShipPower x, int bus, int way) {
        int[] kilowatts = {34, 1};
        int[] each = {9 * 40, 9};
        int rest = way;
        for (int i = 0; i < 2; i++) {
            int brake = x.consumer(bus, 5, kilowatts[i], 10);
            if (rest >= each[i]) {
                x.ask(brake, true);
                run(x, rest / each[i]);
                x.ask(brake, false);
                rest %= each[i];
            }
        }
        run(x, 1);
    }

    /** No set but the shore, which is ON with the next tick. */
    static ShipPower shoreTaken(int milliHertz) {
        ShipPower x = with();
        x.shore(true, milliHertz);
        x.takeShore();
        return x;
    }

    static ShipPower onShore(int milliHertz) {
        ShipPower x = shoreTaken(milliHertz);
        x.tick();
        return x;
    }

    static int state(ShipPower x, int set) {
        return x.set(set, 0);
    }

    static int load(ShipPower x, int set) {
        return x.set(set, 1);
    }

    static boolean isClosed(ShipPower x, int breaker) {
        return (x.count(6) >> breaker & 1) != 0;
    }

    /** The k-th latest event, as one number: tick * 10000 + what it was * 100 + whose it was. */
    static int happened(ShipPower x, int k) {
        return x.event(k, 0) * 10000 + x.event(k, 1) * 100 + x.event(k, 2);
    }

    /** How often an event of a kind and a subject is kept. */
    static int kept(ShipPower x, int kind, int subject) {
        int found = 0;
        for (int k = 0; k < Math.min(32, x.count(5)); k++) {
            if (x.event(k, 1) == kind && x.event(k, 2) == subject) {
                found++;
            }
        }
        return found;
    }
}
