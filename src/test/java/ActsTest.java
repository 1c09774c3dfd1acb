/** Promises 38 and 39: acts of houses, and the trace of their bodies. */
public final class ActsTest {
    private static final Due DUE = new Due("ActsTest");
    private static final int PAINTS = 0;
    private static final int PEELS = 1;
    private static final int FALLS = 2;

    public static void main(String[] args) {
        actsOfAll();
        wrapping();
        noSuchActs();
        DUE.end();
    }

    private static void actIs(PaintedOver x, int house, int act, int due, int... bodies) {
        String call = "act " + act + " of house " + house;
        DUE.is(call, x.act(house, act, 10), due);
        DUE.is("bodies of " + call, x.status(7), bodies.length);
        for (int i = 0; i < bodies.length; i++) {
            DUE.is("body " + i + " of " + call, x.trace(i), bodies[i]);
        }
        DUE.is("no body -1 of " + call, x.trace(-1), -1);
        for (int i = bodies.length; i < 22; i++) {
            DUE.is("no body " + i + " of " + call, x.trace(i), -1);
        }
    }

    private static void actsOfAll() {
        PaintedOver x = new PaintedOver();
        x.house(1, 4);
        x.house(0, 3);
        x.house(6, 2);
        x.house(5, 5);
        x.house(4, 7);
        x.house(3, 6);
        actIs(x, 0, PAINTS, 14, 20, 10);
        actIs(x, 0, PEELS, 28, 11, 20, 10);
        actIs(x, 0, FALLS, 22, 12, 11, 20, 10, 20, 10);
        actIs(x, 1, PAINTS, 11, 10);
        actIs(x, 1, PEELS, 22, 11, 10);
        actIs(x, 1, FALLS, 30, 12, 11, 10, 10);
        actIs(x, 2, FALLS, 108, 12, 71, 30, 11, 70, 10, 70, 10);
        actIs(x, 2, PAINTS, 24, 70, 10);
        actIs(x, 2, PEELS, 120, 71, 30, 11, 70, 10);
        actIs(x, 3, PAINTS, 13, 10);
        actIs(x, 3, PEELS, 78, 30, 11, 10);
        actIs(x, 3, FALLS, 67, 60, 12, 30, 11, 10, 10);
        actIs(x, 4, PAINTS, 10, 51, 10);
        actIs(x, 4, PEELS, 20, 11, 51, 10);
        actIs(x, 4, FALLS, -23, 50, 12, 11, 51, 10, 51, 10);
        actIs(x, 5, PAINTS, 21, 20, 10);
        actIs(x, 5, PEELS, 44, 40, 11, 20, 10);
        actIs(x, 5, FALLS, 35, 12, 40, 11, 20, 10, 20, 10);
        PaintedOver y = new PaintedOver();
        for (int n = 0; n < 5; n++) {
            y.house(2, n + 1);
        }
        actIs(y, 4, PAINTS, 14, 10);
        actIs(y, 4, PEELS, 84, 30, 11, 10);
        actIs(y, 4, FALLS, 93, 12, 30, 11, 10, 10);
        DUE.is("no refusals", Due.refusals(x), 0);
    }

    private static void wrapping() {
        PaintedOver x = new PaintedOver();
        x.house(6, 9);
        x.house(0, 9);
        DUE.is("paints", x.act(1, PAINTS, Integer.MAX_VALUE), Integer.MIN_VALUE);
        DUE.is("peels", x.act(1, PEELS, 1073741823), Integer.MIN_VALUE);
        DUE.is("falls", x.act(1, FALLS, Integer.MIN_VALUE), 2 ^ (Integer.MAX_VALUE - 7));
        DUE.is("peels of BARE", x.act(0, PEELS, Integer.MIN_VALUE), (int) ((Integer.MAX_VALUE - 8L) * 12));
    }

    private static void noSuchActs() {
        PaintedOver x = new PaintedOver();
        x.house(0, 0);
        int[][] none = {{1, 0}, {-1, 0}, {0, 3}, {0, -1}};
        for (int[] call : none) {
            DUE.is("an act", x.act(0, 0, 5), 5);
            DUE.is("its trace", x.trace(0), 10);
            DUE.is("no such act", x.act(call[0], call[1], 5), 0);
            DUE.is("no trace then", x.trace(0), -1);
            DUE.is("no bodies then", x.status(7), 0);
        }
        DUE.is("no refusals", Due.refusals(x), 0);
    }
}
