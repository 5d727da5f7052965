import java.util.Random;

/** Runs of any calls with any arguments: only the exceptions of the document, and what always holds. */
public final class AnyCallsTest {
    private static final int RUNS = 400;
    private static final int CALLS = 250;

    public static void main(String[] args) {
        for (int run = 0; run < RUNS; run++) {
            Random random = new Random(run);
            ShipPower x = new ShipPower();
            ShipPower same = new ShipPower();
            Random again = new Random(run);
            for (int i = 0; i < CALLS; i++) {
                long got = anyCall(x, random);
                Check.same("the same calls, the same answers", anyCall(same, again), got);
            }
            holds("run " + run, x);
        }
        Check.end("AnyCallsTest");
    }

    /** Mostly a fair number, now and then one far off. */
    private static int number(Random random, int size) {
        int way = random.nextInt(40);
        if (way == 0) {
            return random.nextInt();
        }
        return way == 1 ? random.nextInt(3 * size) - size : random.nextInt(size);
    }

    private static long anyCall(ShipPower x, Random random) {
        int a = random.nextInt(25);
        int set = number(random, 6);
        boolean flag = random.nextInt(3) > 0;
        switch (a) {
            case 0:
                return x.mode(number(random, 4)) ? 1 : 0;
            case 1:
                return x.order(random.nextInt()) ? 1 : 0;
            case 2:
            case 3:
            case 4:
                return consumer(x, random);
            case 5:
            case 6:
            case 7:
            case 8:
                return ask(x, number(random, 40), flag);
            case 9:
                return x.fail(set, number(random, 5)) ? 1 : 0;
            case 10:
            case 11:
                return x.start(set) ? 1 : 0;
            case 12:
                return x.trip(set) ? 1 : 0;
            case 13:
                return x.stick(number(random, 9), random.nextInt(4) == 0) ? 1 : 0;
            case 14:
                return x.shore(flag, 59000 + number(random, 2500)) ? 1 : 0;
            case 15:
                return x.takeShore() ? 1 : 0;
            case 16:
                return x.tie(flag) ? 1 : 0;
            case 17:
                return x.tick();
            case 18:
                return x.count(number(random, 9));
            case 19:
                return told(x, random);
            default:
                return ticks(x, number(random, 120));
        }
    }

    private static long consumer(ShipPower x, Random random) {
        try {
            return x.consumer(number(random, 3), number(random, 6), 1 + number(random, 400), 10 + number(random, 30));
        } catch (IllegalArgumentException e) {
            return -1000;
        } catch (IllegalStateException e) {
            Check.same("forty", x.count(3), 40);
            return -2000;
        }
    }

    private static long ask(ShipPower x, int consumer, boolean on) {
        try {
            return x.ask(consumer, on);
        } catch (IndexOutOfBoundsException e) {
            Check.yes("there is none such", consumer < 0 || consumer >= x.count(3));
            return -3000;
        }
    }

    private static long ticks(ShipPower x, int most) {
        int before = x.count(6);
        try {
            int done = x.ticks(most);
            Check.yes("fewer only with a change", done == most || x.count(6) != before);
            return done;
        } catch (IllegalArgumentException e) {
            Check.yes("not 1 .. 1000", most < 1 || most > 1000);
            return -4000;
        }
    }

    private static long told(ShipPower x, Random random) {
        int who = number(random, 6);
        int what = number(random, 9);
        long sum = 0;
        int kind = random.nextInt(4);
        try {
            sum = kind == 0 ? x.bus(who, what) : kind == 1 ? x.set(who, what)
                    : kind == 2 ? x.look(who, what) : x.event(who, what);
        } catch (IndexOutOfBoundsException e) {
            return -5000 - kind;
        }
        return sum;
    }

    private static void within(String what, int got, int least, int most) {
        Check.yes(what + " is " + got, got >= least && got <= most);
    }

    private static void holds(String run, ShipPower x) {
        for (int set = 0; set < 6; set++) {
            int state = x.set(set, 0);
            boolean atBus = state == Scene.ON || state == Scene.UNLOADING;
            Check.yes(run + ": the breaker of " + set, atBus == Scene.isClosed(x, set));
            within(run + ": state", state, 0, 6);
            within(run + ": weight", x.set(set, 5), 0, 1000);
            within(run + ": phase", x.set(set, 4), 0, 179999);
            within(run + ": heat", x.set(set, 2), 0, Integer.MAX_VALUE);
            within(run + ": tries", x.set(set, 7), 0, 3);
            within(run + ": ticks left", x.set(set, 6), state == 1 || state == 5 ? 1 : 0, 200);
        }
        for (int bus = 0; bus < 3; bus++) {
            int lead = x.bus(bus, 2);
            for (int what = 0; what < 6; what++) {
                Check.same(run + ": a group is one", x.bus(bus, what), x.bus(lead, what));
            }
            Check.yes(run + ": live with capacity", x.bus(bus, 4) > 0 == (x.bus(bus, 5) == 1));
            Check.yes(run + ": frequency if live", x.bus(bus, 0) > 0 == (x.bus(bus, 5) == 1));
            within(run + ": phase", x.bus(bus, 1), 0, 179999);
        }
        Check.no(run + ": both feeders", Scene.isClosed(x, 7) && Scene.isClosed(x, 8));
        within(run + ": the ladder", x.count(2), 0, 2);
    }
}
