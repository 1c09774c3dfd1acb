/** Wrap-arounds: the seed, the x of an act, a part whose end would pass the greatest int, elements' lowest bits. */
public final class WrapTest {
    private static final Due DUE = new Due("WrapTest");
    private static final int MIN = Integer.MIN_VALUE;
    private static final int MAX = Integer.MAX_VALUE;
    private static final int PAINTS = 0;
    private static final int PEELS = 1;
    private static final int FALLS = 2;
    private static final int[] X = {MIN, MIN + 1, MIN + 5, -1073741825, -1073741824, -715827883, -357913942, -10, -1, 0, 1, 10,
        357913941, 715827882, 715827883, 1073741823, 1073741824, MAX - 9, MAX - 5, MAX - 1, MAX};
    private static final long BITS = 0xFFFFFFFFL;

    private static long seed = 1;

    public static void main(String[] args) {
        actsOfAllKinds();
        someActsByHand();
        seedsTold();
        yearsOfSeeds();
        yearsOfSixHouses();
        sixteenBitsWithoutSign();
        endsOfParts();
        lowestBits();
        lowestBitsCopied();
        longsCountByTheirLowestBits();
        DUE.end();
    }

    private static int asInt(long v) {
        return (int) v;
    }

    /** What a house paints, in longs that can't wrap here. */
    private static long paints(int kind, int m, int k, long x) {
        switch (kind) {
            case 1:
            case 3:
                return asInt(x + m + k);
            case 4:
                return asInt(x);
            case 6:
                return asInt(2 * (asInt(x) + (long) m));
            default:
                return asInt(x + m);
        }
    }

    private static long peels(int kind, int m, int k, long x) {
        switch (kind) {
            case 2:
            case 5:
                return asInt(6 * paints(kind, m, k, x));
            case 3:
                return asInt(2 * paints(kind, m, k, asInt(x + 1)));
            case 6:
                return asInt(6 * paints(kind, m, k, asInt(x - k)));
            default:
                return asInt(2 * paints(kind, m, k, x));
        }
    }

    private static long falls(int kind, int m, int k, long x) {
        long told = asInt(peels(kind, m, k, x) ^ paints(kind, m, k, asInt(x - k)));
        return kind == 4 ? asInt(-told) : kind == 5 ? asInt(told ^ 5) : told;
    }

    private static void actsOfAllKinds() {
        for (int kind = 0; kind < 7; kind++) {
            for (int m = 0; m < 6; m += 5) {
                for (int k = 0; k < 10; k += 3) {
                    PaintedOver x = new PaintedOver();
                    for (int n = 0; n < m; n++) {
                        x.house(0, 0);
                    }
                    x.house(kind, k);
                    for (int v : X) {
                        String act = " of kind " + kind + ", m " + m + ", k " + k + ", x " + v;
                        DUE.is("paints" + act, x.act(m, PAINTS, v), paints(kind, m, k, v));
                        DUE.is("peels" + act, x.act(m, PEELS, v), peels(kind, m, k, v));
                        DUE.is("falls" + act, x.act(m, FALLS, v), falls(kind, m, k, v));
                    }
                }
            }
        }
    }

    private static void someActsByHand() {
        PaintedOver x = new PaintedOver();
        x.house(1, 9);
        x.house(3, 9);
        x.house(2, 9);
        x.house(4, 9);
        x.house(6, 9);
        DUE.is("DAMP paints MAX", x.act(0, PAINTS, MAX), MIN + 8);
        DUE.is("CELLAR peels MAX", x.act(1, PEELS, MAX), 20);
        DUE.is("LIMED peels MAX", x.act(2, PEELS, MAX), 6);
        DUE.is("SOUTH paints MAX", x.act(3, PAINTS, MAX), MAX);
        DUE.is("SOUTH paints MIN", x.act(3, PAINTS, MIN), MIN);
        DUE.is("SOUTH peels MIN", x.act(3, PEELS, MIN), 0);
        DUE.is("SOUTH falls MIN", x.act(3, FALLS, MIN), -(MAX - 8));
        DUE.is("BARE paints MAX", x.act(4, PAINTS, MAX), 6);
        DUE.is("BARE peels MIN", x.act(4, PEELS, MIN), -60);
    }

    private static void seedsTold() {
        PaintedOver x = new PaintedOver();
        int[] seeds = {MIN, MAX, -1, 0, 1, MIN + 1, MAX - 1};
        int was = 1;
        for (int v : seeds) {
            DUE.is("what the seed was", x.seed(v), was);
            DUE.is("what it is", x.status(6), v);
            was = v;
        }
        DUE.is("nothing is refused", Due.refusals(x), 0);
    }

    /** A draw in longs: the product of two ints and one more is below 2 to the 63. */
    private static int draw(int below) {
        seed = (int) (seed * 1103515245L + 12345L & BITS);
        long upper = (seed & BITS) / 65536;
        return (int) (upper % below);
    }

    /** A year on houses without other coats, by the draws; its hail tells what is left of the coat. */
    private static void yearOf(int v, int houses) {
        PaintedOver x = new PaintedOver();
        for (int n = 0; n < houses; n++) {
            x.house(0, 0);
        }
        x.ask(0, 999);
        x.seed(v);
        seed = v;
        String year = " by seed " + v + " on " + houses;
        DUE.is("skins that fell" + year, x.years(1), 0);
        int house = draw(houses);
        int[] coat = {draw(8), draw(6), draw(9) + 1, draw(12)};
        int hail = draw(8);
        DUE.is("seed" + year, x.status(6), seed);
        DUE.is("coats" + year, x.houseOf(house, 2), 1);
        DUE.is("coats in all" + year, x.status(1), 1);
        for (int what = 0; what < 4; what++) {
            DUE.is("coat's " + what + year, x.coatOf(house, 0, what), coat[what]);
        }
        DUE.is("skin" + year, x.skin(house), coat[2] <= hail ? 0 : 11 * coat[2]);
    }

    private static void yearsOfSeeds() {
        int[] seeds = {MIN, MIN + 1, -65536, -1, 0, 1, 2, 65535, 65536, MAX - 1, MAX};
        for (int v : seeds) {
            for (int houses = 1; houses <= 6; houses++) {
                yearOf(v, houses);
            }
        }
        for (int n = 0; n < 300; n++) {
            yearOf(n * 40503 * 65537, 1 + n % 6);
        }
    }

    /** All years go on from the seed that the last left, over several calls. */
    private static void yearsOfSixHouses() {
        PaintedOver x = new PaintedOver();
        for (int n = 0; n < 6; n++) {
            x.house(0, 0);
        }
        seed = 1;
        int[] n = {1, 2, 40, 39, 40};
        int years = 0;
        for (int more : n) {
            x.years(more);
            years += more;
            for (int k = 0; k < 6 * more; k++) {
                draw(1);
            }
            DUE.is("seed behind " + years, x.status(6), seed);
            DUE.is("years", x.status(4), years);
        }
    }

    /** The seed behind a draw of -1 has upper bits above 32767; with a sign they would be below 0. */
    private static void sixteenBitsWithoutSign() {
        PaintedOver x = new PaintedOver();
        for (int n = 0; n < 6; n++) {
            x.house(0, 0);
        }
        int above = 0;
        for (int v = 0; v < 60; v++) {
            seed = v * 1000;
            int house = draw(6);
            above += seed < 0 ? 1 : 0;
            int before = x.houseOf(house, 2);
            x.image();
            x.seed(v * 1000);
            x.years(1);
            DUE.is("a coat on the drawn house, seed " + v * 1000, x.houseOf(house, 2), before + 1);
            x.restore();
        }
        DUE.is("seeds below 0 are among them", above > 10 && above < 50 ? 1 : 0, 1);
    }

    private static void endsOfParts() {
        PaintedOver x = new PaintedOver();
        Due.row(x, 0, 2, 1, 2, 3);
        Due.row(x, 1, 2, 4, 5, 6);
        int[][] parts = {{MAX, 0, 1}, {MAX, 0, 2}, {MAX, 0, MAX}, {0, MAX, 1}, {0, MAX, MAX}, {MAX, MAX, MAX}, {1, 0, MAX},
            {0, 1, MAX}, {3, 3, MAX}, {MAX, 0, 0}, {0, MAX, 0}, {MAX - 1, 0, 3}, {0, MAX - 1, 3}, {MAX - 2, MAX - 2, 3},
            {MIN, 0, 1}, {0, MIN, 1}, {MIN, 0, MAX}, {MIN, MIN, 0}, {-1, 0, 1}, {0, -1, 1}};
        for (int[] part : parts) {
            String name = "copy of " + part[2] + " from " + part[0] + " to " + part[1];
            DUE.is(name, x.copy(0, 1, part[0], part[1], part[2]), -5);
            DUE.is(name + " onto itself", x.copy(0, 0, part[0], part[1], part[2]), -5);
        }
        DUE.is("n below 0, wrapping", x.copy(0, 1, MIN, MIN, MIN), -4);
        DUE.is("n -1 at 1", x.copy(0, 1, 1, 1, -1), -4);
        for (int i = 0; i < 3; i++) {
            DUE.is("nothing is copied", x.element(1, i), 4 + i);
            DUE.is("nor moved", x.element(0, i), 1 + i);
        }
        DUE.is("refusals", Due.refusals(x), 2_40_00_00L);
    }

    private static void lowestBits() {
        long[] put = {0, 1, -1, 127, 128, -128, -129, 255, 256, 32767, 32768, -32768, -32769, 65535, 65536, MAX, MAX + 1L, MIN,
            MIN - 1L, BITS, BITS + 1, Long.MAX_VALUE, Long.MIN_VALUE, 0x0102030405060708L, 0x8182838485868788L};
        for (long v : put) {
            PaintedOver x = new PaintedOver();
            int[] bits = {8, 16, 32, 64};
            for (int sort = 0; sort < 4; sort++) {
                x.row(sort, sort, 3);
                DUE.is("set", x.set(sort, 1, v), 1);
                long kept = v << 64 - bits[sort] >> 64 - bits[sort];
                DUE.is("lowest " + bits[sort] + " bits of " + v, x.element(sort, 1), kept);
                DUE.is("the one ahead", x.element(sort, 0), 0);
                DUE.is("the one behind", x.element(sort, 2), 0);
            }
        }
    }

    private static void lowestBitsCopied() {
        PaintedOver x = new PaintedOver();
        for (int sort = 0; sort < 4; sort++) {
            x.row(sort, sort, 2);
            x.row(sort + 4, sort, 2);
            x.set(sort, 0, 0x8182838485868788L);
            x.copy(sort, sort + 4, 0, 1, 1);
            DUE.is("copied as it is", x.element(sort + 4, 1), x.element(sort, 0));
        }
        DUE.is("a long's upper bits too", x.element(7, 1), 0x8182838485868788L);
    }

    private static void longsCountByTheirLowestBits() {
        long[] above = {1L << 32, -1L << 32, 1L << 63, BITS << 32};
        for (long more : above) {
            PaintedOver x = new PaintedOver();
            Due.row(x, 0, 3, 21 + more, 10 + more);
            DUE.is("orders", x.orders(0, 2, -1), 1);
            DUE.is("the first", x.orders(0, 2, 0), 0);
            DUE.is("the last", x.orders(0, 2, 2), 2);
            DUE.is("none forged", x.forged(0, 2), -1);
            Due.row(x, 0, 3, 21 + more, 12);
            DUE.is("forged", x.forged(0, 2), 1);
            DUE.is("no order", x.orders(0, 2, -1), 0);
            Due.row(x, 0, 3, (1L << 31) + 10 + more);
            DUE.is("bit 31 counts", x.orders(0, 1, -1), -6);
            DUE.is("bit 31 counts in forged", x.forged(0, 1), -16);
            Due.row(x, 0, 3, -246 & BITS | more);
            DUE.is("a lowest byte alone is no pair", x.orders(0, 1, -1), -6);
        }
        PaintedOver x = new PaintedOver();
        Due.row(x, 0, 0, 10 + 256, 10 - 256);
        DUE.is("of bytes the lowest 8", x.orders(0, 2, -1), 1);
        Due.row(x, 0, 1, 10 + 65536, 10 - 65536);
        DUE.is("of shorts the lowest 16", x.orders(0, 2, -1), 1);
        Due.row(x, 0, 1, 10 + 256);
        DUE.is("of shorts not 8", x.orders(0, 1, -1), -6);
        Due.row(x, 0, 2, 10 + 65536);
        DUE.is("of ints not 16", x.orders(0, 1, -1), -6);
    }
}
