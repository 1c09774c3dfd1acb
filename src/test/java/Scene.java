/** A furnished object, and all that can be asked of an object, so that two objects can be told apart. */
final class Scene {
    /** What the shelves of a furnished object hold; the pairs on PAIRS are 21, and all of them may be. */
    static final int FEW_PAIRS = 0;
    static final int CELLAR = 1;
    static final int NOTHING = 2;
    static final int NO_ORDER = 3;
    static final int TEXT = 4;
    static final int PAIRS = 5;
    static final int BARE = 6;
    static final int OVER_ITSELF = 7;

    private static final int MOST_LOOKS = 500;

    private Scene() {
    }

    /**
     * Six houses, house 0 with eight coats, house 1 with two, an image that isn't what is now, a fault, a trace.
     * Some 100 calls.
     */
    static PaintedOver furnished() {
        PaintedOver x = new PaintedOver();
        int[] kinds = {0, 3, 6, 5, 4, 1};
        int[] as = {0, 4, 2, 9, 1, 7};
        for (int n = 0; n < kinds.length; n++) {
            x.house(kinds[n], as[n]);
        }
        for (int n = 0; n < 8; n++) {
            x.coat(0, n, n % 6, 1 + n, 11 - n);
        }
        x.coat(1, 1, 2, 3, 4);
        x.coat(1, 5, 5, 9, 7);
        x.colour(2, 0, 8);
        x.colour(5, 1, 44);
        x.ask(0, 990);
        x.ask(1, 33);
        x.seed(77);
        x.image();
        x.scratch(1, 0);
        x.scratch(1, 0);
        x.scratch(0, 5);
        x.colour(3, 0, 1);
        x.ask(0, 998);
        x.seed(78);
        shelves(x);
        x.street(TEXT);
        x.act(1, 2, 3);
        return x;
    }

    private static void shelves(PaintedOver x) {
        Due.row(x, FEW_PAIRS, 0, 10, 21, 32);
        x.show(CELLAR, 1);
        Due.row(x, NO_ORDER, 1, 10, 1);
        Due.text(x, TEXT, 0, "hail x");
        Due.row(x, PAIRS, 2, 10, 21, 32, 43, 54, 65, 76, 20, 30, 40, 50, 60, 70, 31, 41, 51, 61, 71, 42, 52, 62);
        x.show(BARE, 2);
        Due.row(x, OVER_ITSELF, 3, 11);
    }

    /** How many elements a furnished object's shelf has. */
    static int size(int shelf) {
        int[] sizes = {3, 0, 0, 2, 6, 21, 0, 1};
        return sizes[shelf];
    }

    /** All that can be asked of an object but how many refusals there were; some 300 calls. */
    static long[] look(PaintedOver x) {
        long[] look = new long[MOST_LOOKS];
        int n = lookAtShelves(x, look, lookAtTown(x, look, 0));
        look[n++] = x.fault();
        for (int i = 0; i <= x.status(7); i++) {
            look[n++] = x.trace(i);
        }
        look[n] = n;
        return look;
    }

    /** All that can be asked of what the image takes; some 150 calls, 420 if all houses are full. */
    static long[] lookAtTown(PaintedOver x) {
        long[] look = new long[MOST_LOOKS];
        lookAtTown(x, look, 0);
        return look;
    }

    private static int lookAtTown(PaintedOver x, long[] look, int from) {
        int n = from;
        for (int what = 0; what <= 6; what++) {
            look[n++] = x.status(what);
        }
        for (int house = 0; house < x.status(0); house++) {
            for (int what = 0; what < 5; what++) {
                look[n++] = x.houseOf(house, what);
            }
            int coats = x.houseOf(house, 2);
            for (int coat = 0; coat < coats; coat++) {
                for (int what = 0; what < 7; what++) {
                    look[n++] = x.coatOf(house, coat, what);
                }
            }
        }
        for (int c = 0; c < 6; c++) {
            for (int what = 0; what < 2; what++) {
                int was = x.colour(c, what, 0);
                x.colour(c, what, was);
                look[n++] = was;
            }
        }
        return n;
    }

    private static int lookAtShelves(PaintedOver x, long[] look, int from) {
        int n = from;
        for (int s = 0; s < 8; s++) {
            int held = x.holds(s);
            look[n++] = held;
            int most = held < 100 ? 0 : s == PAIRS ? 22 : 7;
            for (int i = 0; i < most; i++) {
                look[n++] = x.element(s, i);
            }
        }
        return n;
    }
}
