import java.util.Random;

/**
 * The program against the model, over runs of any calls: each answer is looked at, now and then something that is
 * told, and in the end of a run all that is told. A run stays below the 512 calls that an object is good for.
 */
public final class ModelTest {
    private static final int RUNS = 1000;
    private static final int[] STRETCHES = {1, 1, 2, 5, 10, 19, 20, 30, 31, 60, 100, 150, 200, 400};

    private final Random random;
    private final ShipPower x = new ShipPower();
    private final Model y = new Model();
    private final String run;
    private int calls;

    private ModelTest(int number) {
        random = new Random(number);
        run = "run " + number;
    }

    public static void main(String[] args) {
        for (int number = 0; number < RUNS; number++) {
            new ModelTest(number).play();
        }
        Check.end("ModelTest");
    }

    private void play() {
        begin();
        int most = 5 + random.nextInt(115);
        for (int i = 0; i < most; i++) {
            call();
            tellAny();
        }
        tellAll();
    }

    private void same(String call, long got, long due) {
        calls++;
        Check.same(run + ", call " + calls + ": " + call, got, due);
    }

    private void same(String call, boolean got, boolean due) {
        same(call, got ? 1 : 0, due ? 1 : 0);
    }

    /** Plants with few sets, with many, on shore, in two halves, with breakers that stick. */
    private void begin() {
        for (int set = 0; set < 5; set++) {
            if (random.nextInt(4) == 0) {
                fail(set, random.nextInt(5));
            }
            if (random.nextInt(3) > 0) {
                same("start", x.start(set), y.start(set));
            }
        }
        if (random.nextInt(3) == 0) {
            same("tie", x.tie(false), y.tie(false));
        }
        if (random.nextInt(4) == 0) {
            shore(true);
            same("takeShore", x.takeShore(), y.takeShore());
        }
        if (random.nextInt(4) == 0) {
            stick(random.nextInt(9), true);
        }
        int users = random.nextInt(3) == 0 ? 40 : random.nextInt(12);
        int size = random.nextInt(3) == 0 ? 800 : 1 + random.nextInt(250);
        for (int i = 0; i < users; i++) {
            consumer(random.nextInt(3), random.nextInt(6), 1 + random.nextInt(size), 10 + random.nextInt(51));
        }
        ticks(30 + random.nextInt(3));
    }

    private void call() {
        switch (random.nextInt(24)) {
            case 0:
                int m = number(4);
                same("mode " + m, x.mode(m), y.mode(m));
                break;
            case 1:
                int sets = random.nextInt();
                same("order " + sets, x.order(sets), y.order(sets));
                break;
            case 2:
                consumer(number(3), number(6), 1 + number(800), 10 + number(51));
                break;
            case 3:
            case 4:
            case 5:
            case 6:
                ask(number(Math.max(1, y.users.size())), random.nextInt(4) > 0);
                break;
            case 7:
                fail(number(5), number(5));
                break;
            case 8:
                fail(random.nextInt(5), 0);
                break;
            case 9:
                int set = number(6);
                same("start " + set, x.start(set), y.start(set));
                break;
            case 10:
                set = number(6);
                same("trip " + set, x.trip(set), y.trip(set));
                break;
            case 11:
                stick(number(9), random.nextInt(3) == 0);
                break;
            case 12:
                shore(random.nextInt(4) > 0);
                break;
            case 13:
                same("takeShore", x.takeShore(), y.takeShore());
                break;
            case 14:
                boolean closed = random.nextInt(3) > 0;
                same("tie " + closed, x.tie(closed), y.tie(closed));
                break;
            case 15:
                same("tick", x.tick(), y.tick());
                break;
            default:
                ticks(random.nextInt(60) == 0 ? number(1001) : STRETCHES[random.nextInt(STRETCHES.length)]);
                break;
        }
    }

    /** Mostly a fair number, now and then one beside or far off. */
    private int number(int size) {
        int way = random.nextInt(60);
        if (way == 0) {
            return random.nextInt();
        }
        return way == 1 ? -1 : way == 2 ? size : random.nextInt(size);
    }

    private void consumer(int bus, int cls, int kilowatts, int factor) {
        long got;
        try {
            got = x.consumer(bus, cls, kilowatts, factor);
        } catch (IllegalArgumentException e) {
            got = Model.ARGUMENT;
        } catch (IllegalStateException e) {
            got = Model.STATE;
        }
        same("consumer", got, y.consumer(bus, cls, kilowatts, factor));
        if (random.nextInt(3) > 0 && y.users.size() > 0) {
            ask(y.users.size() - 1, true);
        }
    }

    private void ask(int consumer, boolean on) {
        long got;
        try {
            got = x.ask(consumer, on);
        } catch (IndexOutOfBoundsException e) {
            got = Model.INDEX;
        }
        same("ask " + consumer + " " + on, got, y.ask(consumer, on));
    }

    private void ticks(int most) {
        long got;
        try {
            got = x.ticks(most);
        } catch (IllegalArgumentException e) {
            got = Model.ARGUMENT;
        }
        same("ticks " + most, got, y.ticks(most));
    }

    private void fail(int set, int how) {
        same("fail " + set + " " + how, x.fail(set, how), y.fail(set, how));
    }

    private void stick(int breaker, boolean sticks) {
        same("stick " + breaker + " " + sticks, x.stick(breaker, sticks), y.stick(breaker, sticks));
    }

    /** Mostly near what the plant runs at, for else the shore never comes. */
    private void shore(boolean there) {
        int way = random.nextInt(8);
        int milliHertz = way == 0 ? 54990 + random.nextInt(10020) : way == 1 ? number(70000)
                : way == 2 ? 56900 + random.nextInt(1700) : 59800 + random.nextInt(1000);
        same("shore " + there + " " + milliHertz, x.shore(there, milliHertz), y.shore(there, milliHertz));
    }

    private void tellAny() {
        switch (random.nextInt(5)) {
            case 0:
                bus(number(3), number(6));
                break;
            case 1:
                set(number(6), number(9));
                break;
            case 2:
                look(number(Math.max(1, y.users.size())), number(2));
                break;
            case 3:
                event(number(32), number(3));
                break;
            default:
                int what = number(9);
                same("count " + what, x.count(what), y.count(what));
                break;
        }
    }

    private void tellAll() {
        for (int what = 0; what < 9; what++) {
            same("count " + what, x.count(what), y.count(what));
            for (int set = 0; set < 6; set++) {
                set(set, what);
            }
        }
        for (int what = 0; what < 6; what++) {
            for (int bus = 0; bus < 3; bus++) {
                bus(bus, what);
            }
        }
        for (int consumer = 0; consumer < y.users.size(); consumer++) {
            look(consumer, 0);
            look(consumer, 1);
        }
        for (int k = 0; k < 10; k++) {
            for (int what = 0; what < 3; what++) {
                event(k, what);
            }
        }
        Check.yes("calls are " + calls, calls <= 512);
    }

    private void bus(int bus, int what) {
        long got;
        try {
            got = x.bus(bus, what);
        } catch (IndexOutOfBoundsException e) {
            got = Model.INDEX;
        }
        same("bus " + bus + " " + what, got, y.bus(bus, what));
    }

    private void set(int set, int what) {
        long got;
        try {
            got = x.set(set, what);
        } catch (IndexOutOfBoundsException e) {
            got = Model.INDEX;
        }
        same("set " + set + " " + what, got, y.set(set, what));
    }

    private void look(int consumer, int what) {
        long got;
        try {
            got = x.look(consumer, what);
        } catch (IndexOutOfBoundsException e) {
            got = Model.INDEX;
        }
        same("look " + consumer + " " + what, got, y.look(consumer, what));
    }

    private void event(int k, int what) {
        long got;
        try {
            got = x.event(k, what);
        } catch (IndexOutOfBoundsException e) {
            got = Model.INDEX;
        }
        same("event " + k + " " + what, got, y.event(k, what));
    }
}
