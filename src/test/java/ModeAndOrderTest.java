/** Promises 2 and 3: mode and order. */
public final class ModeAndOrderTest {
    private static final int[] RESERVES = {300, 150, 600, 1000};

    public static void main(String[] args) {
        modes();
        noSuchMode();
        reserves();
        orders();
        orderWithOneTwice();
        orderWithOtherBits();
        orderIsUsed();
        refusedOrderChangesNothing();
        Check.end("ModeAndOrderTest");
    }

    private static void modes() {
        ShipPower x = new ShipPower();
        for (int m = 0; m < 4; m++) {
            Check.yes("mode " + m, x.mode(m));
            Check.yes("again " + m, x.mode(m));
        }
    }

    /** "false if there is no such one" */
    private static void noSuchMode() {
        int[] wrong = {-1, 4, Integer.MAX_VALUE, Integer.MIN_VALUE};
        for (int m : wrong) {
            ShipPower x = Scene.running(0);
            x.fail(1, 0);
            x.mode(3);
            Check.no("mode " + m, x.mode(m));
            Scene.burden(x, 1);
            Scene.run(x, 10);
            Check.same("reserve 1000 as it was", Scene.state(x, 1), Scene.STARTING);
        }
    }

    /** One set of 1000 is ON: a second one is called just above 1000 less the reserve. */
    private static void reserves() {
        for (int m = 0; m < 4; m++) {
            int enough = 1000 - RESERVES[m];
            Check.no("mode " + m + " at its edge", callsWith(m, enough));
            Check.yes("mode " + m + " above it", callsWith(m, enough + 1));
        }
    }

    private static boolean callsWith(int mode, int demand) {
        ShipPower x = Scene.running(0);
        x.fail(1, 0);
        x.mode(mode);
        Scene.burden(x, demand);
        Scene.run(x, 10);
        return Scene.state(x, 1) == Scene.STARTING;
    }

    private static int packed(int a, int b, int c, int d) {
        return a | b << 2 | c << 4 | d << 6;
    }

    /** "two bits each, the first one lowest: true" */
    private static void orders() {
        ShipPower x = new ShipPower();
        int good = 0;
        for (int sets = 0; sets < 256; sets++) {
            if (x.order(sets)) {
                good++;
            }
        }
        Check.same("orders there are", good, 24);
        Check.yes("3 2 1 0", x.order(packed(3, 2, 1, 0)));
    }

    /** "false if one is there twice": at each two of the four places. */
    private static void orderWithOneTwice() {
        ShipPower x = new ShipPower();
        Check.no("1st and 2nd", x.order(packed(0, 0, 2, 3)));
        Check.no("1st and 3rd", x.order(packed(0, 1, 0, 3)));
        Check.no("1st and 4th", x.order(packed(0, 1, 2, 0)));
        Check.no("2nd and 3rd", x.order(packed(0, 1, 1, 3)));
        Check.no("2nd and 4th", x.order(packed(0, 1, 2, 1)));
        Check.no("3rd and 4th", x.order(packed(0, 1, 2, 2)));
        Check.no("all", x.order(0));
        Check.no("all, of 3", x.order(255));
    }

    /** "(Other bits are not looked at.)" */
    private static void orderWithOtherBits() {
        int[] others = {0x100, 0x80000000, 0x7fffff00, 0xffffff00};
        for (int other : others) {
            ShipPower x = new ShipPower();
            Check.no("they do not help", x.order(other));
            Check.yes("nor do they harm", x.order(packed(3, 0, 1, 2) | other));
            Check.same("nor change the order", firstStarted(x), 3);
        }
    }

    private static void orderIsUsed() {
        Check.same("as it was at first", firstStarted(NONE_GIVEN), 0);
        Check.same("1 first", firstStarted(packed(1, 0, 3, 2)), 1);
        Check.same("2 first", firstStarted(packed(2, 0, 1, 3)), 2);
        Check.same("3 first", firstStarted(packed(3, 2, 1, 0)), 3);
    }

    private static void refusedOrderChangesNothing() {
        ShipPower x = new ShipPower();
        x.order(packed(2, 0, 1, 3));
        Check.no("refused", x.order(packed(1, 0, 3, 3)));
        Check.same("2 first", firstStarted(x), 2);
    }

    private static final int NONE_GIVEN = -1;

    private static int firstStarted(int order) {
        ShipPower x = new ShipPower();
        if (order != NONE_GIVEN) {
            Check.yes("order " + order, x.order(order));
        }
        return firstStarted(x);
    }

    /** In tick 20 the manager calls one, ahead of what the blackout calls. */
    private static int firstStarted(ShipPower x) {
        Scene.run(x, 20);
        int first = -1;
        for (int k = x.count(5) - 1; k >= 0 && first < 0; k--) {
            if (x.event(k, 1) == 5) {
                first = x.event(k, 2);
            }
        }
        return first;
    }
}
