/** Promises 2 and 3: mode and order. */
public final class ModeAndOrderTest {
    private static final int[] RESERVES = {300, 150, 600, 1000};

    public static void main(String[] args) {
        modes();
        reserves();
        orders();
        orderIsUsed();
        Check.end("ModeAndOrderTest");
    }

    private static void modes() {
        ShipPower x = new ShipPower();
        for (int m = 0; m < 4; m++) {
            Check.yes("mode " + m, x.mode(m));
        }
        Check.no("mode -1", x.mode(-1));
        Check.no("mode 4", x.mode(4));
        Check.no("the greatest int", x.mode(Integer.MAX_VALUE));
        Check.no("the least int", x.mode(Integer.MIN_VALUE));
    }

    /** One set of 1000 is ON: a second one is called just above 1000 less the reserve. */
    private static void reserves() {
        for (int m = 0; m < 4; m++) {
            int enough = 1000 - RESERVES[m];
            Check.no("mode " + m + " at its edge", callsWith(m, enough));
            Check.yes("mode " + m + " above it", callsWith(m, enough + 1));
        }
        ShipPower x = Scene.running(0);
        x.fail(1, 0);
        x.mode(3);
        x.mode(4);
        Scene.asked(x, 0, 5, 1, 10);
        Scene.run(x, 10);
        Check.same("a refused mode changes nothing", Scene.state(x, 1), Scene.STARTING);
    }

    private static boolean callsWith(int mode, int demand) {
        ShipPower x = Scene.running(0);
        x.fail(1, 0);
        x.mode(mode);
        Scene.burden(x, demand);
        Scene.run(x, 10);
        return Scene.state(x, 1) == Scene.STARTING;
    }

    private static int packed(int a, int b, int c, int d) {
        return a | b << 2 | c << 4 | d << 6;
    }

    private static void orders() {
        ShipPower x = new ShipPower();
        int good = 0;
        for (int sets = 0; sets < 256; sets++) {
            if (x.order(sets)) {
                good++;
            }
        }
        Check.same("orders there are", good, 24);
        Check.yes("3 2 1 0", x.order(packed(3, 2, 1, 0)));
        Check.no("0 1 2 2", x.order(packed(0, 1, 2, 2)));
        Check.no("0 0 0 0", x.order(0));
        Check.yes("other bits set", x.order(packed(1, 0, 3, 2) | 0xffffff00));
        Check.no("other bits do not help", x.order(0xffffff00));
    }

    private static void orderIsUsed() {
        Check.same("as it was at first", firstStarted(NONE_GIVEN), 0);
        Check.same("2 first", firstStarted(packed(2, 0, 1, 3)), 2);
        Check.same("3 first", firstStarted(packed(3, 2, 1, 0)), 3);
        ShipPower x = new ShipPower();
        x.order(packed(2, 0, 1, 3));
        x.order(packed(1, 1, 1, 1));
        Check.same("a refused order changes nothing", firstStarted(x), 2);
        x = new ShipPower();
        x.order(packed(3, 0, 1, 2) | 0x7fffff00);
        Check.same("other bits are not looked at", firstStarted(x), 3);
    }

    private static final int NONE_GIVEN = -1;

    private static int firstStarted(int order) {
        ShipPower x = new ShipPower();
        if (order != NONE_GIVEN) {
            Check.yes("order " + order, x.order(order));
        }
        return firstStarted(x);
    }

    /** In tick 20 the manager calls one, ahead of what the blackout calls. */
    private static int firstStarted(ShipPower x) {
        Scene.run(x, 20);
        int first = -1;
        for (int k = x.count(5) - 1; k >= 0 && first < 0; k--) {
            if (x.event(k, 1) == 5) {
                first = x.event(k, 2);
            }
        }
        return first;
    }
}
