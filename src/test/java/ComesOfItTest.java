/** Promises 26 to 32: painting, gaps, moves, orders of tenants, forged ones, lanes, prices. */
public final class ComesOfItTest {
    private static final Due DUE = new Due("ComesOfItTest");

    public static void main(String[] args) {
        paints();
        paintsByKinds();
        gaps();
        moves();
        ordersCounted();
        firstOrders();
        pairsOfAllSorts();
        ordersRefusals();
        forged();
        forgedRefusals();
        lanes();
        lanesByTheGreatest();
        pairsAnew();
        prices();
        houseRefusals();
        DUE.end();
    }

    private static void paints() {
        PaintedOver x = new PaintedOver();
        x.house(0, 9);
        DUE.is("dry", x.paint(0, 0, 0), 1);
        DUE.is("3", x.paint(0, 0, 3), 1);
        DUE.is("4", x.paint(0, 0, 4), 2);
        DUE.is("27", x.paint(0, 11, 27), 9);
        DUE.is("28", x.paint(0, 11, 28), -1);
        x.colour(3, 0, 9);
        DUE.is("28 in a colour that hides more", x.paint(0, 0, 28), 34);
        DUE.is("27 costs less so", x.paint(0, 0, 27), 33);
        DUE.is("81", x.paint(0, 0, 81), 39);
        DUE.is("82", x.paint(0, 0, 82), -1);
        x.colour(1, 0, 6);
        x.colour(1, 1, 2);
        x.colour(3, 1, 99);
        DUE.is("as dear: the first colour", x.paint(0, 0, 12), 4);
        x.colour(0, 1, 3);
        x.colour(2, 1, 4);
        x.colour(4, 1, 4);
        x.colour(5, 1, 4);
        DUE.is("cheaper though dearer by thickness", x.paint(0, 0, 12), 12);
        x.colour(2, 1, 0);
        x.colour(2, 0, 1);
        DUE.is("for nothing: the first thickness", x.paint(0, 0, 5), 25);
        DUE.is("for nothing, dry", x.paint(0, 0, 0), 21);
        DUE.is("beyond what is for nothing", x.paint(0, 0, 10), 12);
        x.colour(1, 1, 0);
        DUE.is("two for nothing: the first colour", x.paint(0, 0, 5), 11);
        DUE.is("nothing is painted", x.status(1), 0);
        for (int n = 0; n < 7; n++) {
            x.coat(0, 0, 0, 9, 0);
        }
        DUE.is("what lies there doesn't matter", x.paint(0, 0, 5), 11);
        DUE.is("no refusals", Due.refusals(x), 0);
        x.coat(0, 0, 0, 9, 0);
        DUE.is("house ahead of the rest", x.paint(1, 12, 100), -11);
        DUE.is("house -1", x.paint(-1, 0, 0), -11);
        DUE.is("gap ahead of room", x.paint(0, 12, 0), -16);
        DUE.is("gap -1", x.paint(0, -1, 0), -16);
        DUE.is("d ahead of room", x.paint(0, 0, 100), -16);
        DUE.is("d -1", x.paint(0, 0, -1), -16);
        DUE.is("eight coats", x.paint(0, 0, 0), -17);
        DUE.is("refusals", Due.refusals(x), 2_00_00_00_00_04_01L);
    }

    private static void paintsByKinds() {
        int[] due = {4, 5, 4, 7, 5, 4, 4};
        for (int kind = 0; kind < 7; kind++) {
            PaintedOver x = new PaintedOver();
            x.house(kind, 5);
            DUE.is("dry, kind " + kind, x.paint(0, 8, 0), 1);
            if (kind == 3) {
                DUE.is("cellar 5: row 2", x.paint(0, 8, 5), 7);
            } else {
                DUE.is("10, kind " + kind, x.paint(0, 8, 10), due[kind]);
            }
        }
        PaintedOver cellar = new PaintedOver();
        cellar.house(3, 0);
        DUE.is("cellar 10, gap above", cellar.paint(0, 0, 10), 7);
        DUE.is("cellar 10, gap in row 2", cellar.paint(0, 11, 10), 7);
        PaintedOver south = new PaintedOver();
        south.house(4, 0);
        DUE.is("south 18", south.paint(0, 0, 18), 9);
        DUE.is("south 19", south.paint(0, 0, 19), -1);
        for (int c = 0; c < 6; c++) {
            south.colour(c, 0, 0);
        }
        DUE.is("south, nothing hides, dry", south.paint(0, 0, 0), 1);
        DUE.is("south, nothing hides, 1", south.paint(0, 0, 1), -1);
    }

    private static void gaps() {
        PaintedOver x = Due.threeCoats(0, 0);
        DUE.is("the only cell without", x.gap(0, 2), 2);
        DUE.is("the least deep", x.gap(0, 1), 1);
        DUE.is("one who is seen nowhere", x.gap(0, 0), 1);
        DUE.is("one who never lived there", x.gap(0, 7), 1);
        x.scratch(0, 9);
        x.scratch(0, 9);
        x.scratch(0, 9);
        x.scratch(0, 10);
        x.scratch(0, 10);
        x.scratch(0, 10);
        DUE.is("cells without coats, the first", x.gap(0, 2), 9);
        x.coat(0, 3, 0, 1, 0);
        DUE.is("in the gap of one's own coat", x.gap(0, 3), 0);
        x.coat(0, 3, 0, 1, 1);
        DUE.is("seen everywhere", x.gap(0, 3), -1);
        DUE.is("least deep behind these", x.gap(0, 0), 9);
        x.house(0, 0);
        DUE.is("no coats at all", x.gap(1, 0), 0);
        DUE.is("no refusals", Due.refusals(x), 0);
        DUE.is("no house 2", x.gap(2, 0), -11);
        DUE.is("no house -1", x.gap(-1, 0), -11);
        DUE.is("no tenant 8", x.gap(0, 8), -11);
        DUE.is("no tenant -1", x.gap(0, -1), -11);
        DUE.is("refusals", Due.refusals(x), 4_00_00_00_00_00_00L);
    }

    private static void moves() {
        PaintedOver x = new PaintedOver();
        for (int n = 0; n < 6; n++) {
            x.house(0, 0);
        }
        x.coat(0, 7, 0, 1, 0);
        x.coat(0, 7, 0, 1, 0);
        x.coat(5, 7, 0, 1, 0);
        x.coat(5, 0, 0, 1, 0);
        x.hail(99);
        DUE.is("houses of 7", x.moves(7, 0), 1 | 1 << 5);
        DUE.is("coats of 7", x.moves(7, 1), 3);
        DUE.is("houses of 0", x.moves(0, 0), 1 << 5);
        DUE.is("coats of 0", x.moves(0, 1), 1);
        DUE.is("houses of 3", x.moves(3, 0), 0);
        DUE.is("coats of 3", x.moves(3, 1), 0);
        DUE.is("tenant 8", x.moves(8, 2), -1);
        DUE.is("tenant -1", x.moves(-1, 0), -1);
        DUE.is("what 2", x.moves(0, 2), -5);
        DUE.is("what -1", x.moves(0, -1), -5);
        DUE.is("refusals", Due.refusals(x), 2_00_00_00_02_00_00L);
    }

    private static void countIs(int count, long... pairs) {
        PaintedOver x = new PaintedOver();
        Due.row(x, 0, 2, pairs);
        DUE.is("orders of " + java.util.Arrays.toString(pairs), x.orders(0, pairs.length, -1), count);
        DUE.is("forged of " + java.util.Arrays.toString(pairs) + " is NONE", x.forged(0, pairs.length) == -1 ? 1 : 0,
            count > 0 ? 1 : 0);
    }

    private static void ordersCounted() {
        countIs(1);
        countIs(1, 10);
        countIs(1, 1);
        countIs(2, 10, 20);
        countIs(2, 2, 1);
        countIs(1, 10, 21);
        countIs(1, 10, 21, 20);
        countIs(6, 76, 10);
        countIs(1, 53, 53, 53);
        countIs(3, 10, 21, 30);
        countIs(2520, 10, 32, 54, 76);
        countIs(5040, 70, 60, 50, 40, 30, 20, 10);
        countIs(5040, 7, 17, 27, 37, 47, 57, 67);
        countIs(0, 10, 1);
        countIs(0, 10, 21, 2);
        countIs(0, 54, 10, 21, 2);
        countIs(1, 10, 21, 32, 43, 54, 65, 76, 20, 31, 42, 53, 64, 75, 30, 41, 52, 63, 74, 40, 51);
    }

    private static void firstIs(long[] pairs, int... order) {
        PaintedOver x = new PaintedOver();
        Due.row(x, 0, 2, pairs);
        for (int i = 0; i < order.length; i++) {
            DUE.is("place " + i + " of " + java.util.Arrays.toString(pairs), x.orders(0, pairs.length, i), order[i]);
        }
        DUE.is("no refusal yet", Due.refusals(x), 0);
        DUE.is("one too great", x.orders(0, pairs.length, order.length), -5);
    }

    private static void firstOrders() {
        firstIs(new long[] {});
        firstIs(new long[] {10}, 0, 1);
        firstIs(new long[] {1}, 1, 0);
        firstIs(new long[] {10, 20}, 0, 1, 2);
        firstIs(new long[] {2, 1}, 1, 2, 0);
        firstIs(new long[] {7, 12}, 2, 1, 7, 0);
        firstIs(new long[] {76, 10}, 0, 1, 6, 7);
        firstIs(new long[] {67, 1}, 1, 0, 7, 6);
        firstIs(new long[] {7, 17, 27, 37, 47, 57, 67}, 7, 0, 1, 2, 3, 4, 5, 6);
        firstIs(new long[] {1, 12, 23, 34, 45, 56, 67}, 7, 6, 5, 4, 3, 2, 1, 0);
    }

    private static void pairsOfAllSorts() {
        for (int sort = 0; sort < 4; sort++) {
            PaintedOver x = new PaintedOver();
            Due.row(x, 0, sort, 1, 12 + (1L << 32), 99);
            DUE.is("bits above an int, sort " + sort, x.orders(0, 2, 0), 2);
            DUE.is("forged, sort " + sort, x.forged(0, 2), -1);
            DUE.is("only the first n, sort " + sort, x.orders(0, 1, -1), 1);
            DUE.is("all of them, sort " + sort, x.orders(0, 3, -1), -6);
            DUE.is("forged, all of them, sort " + sort, x.forged(0, 3), -16);
        }
    }

    private static void pairsAnew() {
        PaintedOver x = new PaintedOver();
        Due.row(x, 0, 0, 10, 32);
        Due.row(x, 1, 0, 1);
        DUE.is("pairs", x.orders(0, 2, -1), 6);
        DUE.is("pairs anew", x.orders(1, 1, -1), 1);
        DUE.is("the first of these", x.orders(1, 1, 0), 1);
        DUE.is("no third of these", x.orders(1, 1, 2), -5);
        DUE.is("forged of the others", x.forged(0, 2), -1);
        DUE.is("forged of these", x.forged(1, 1), -1);
    }

    private static void ordersRefusals() {
        PaintedOver x = new PaintedOver();
        x.house(0, 0);
        x.show(1, 0);
        x.row(0, 0, 21);
        x.row(3, 0, 1);
        for (int i = 0; i < 21; i++) {
            x.set(0, i, 10);
        }
        DUE.is("orders of 8", x.orders(8, -1, -2), -1);
        DUE.is("orders of -1", x.orders(-1, 0, -1), -1);
        DUE.is("orders of a house", x.orders(1, -1, -2), -2);
        DUE.is("orders of nothing", x.orders(2, -1, -2), -3);
        DUE.is("n below 0", x.orders(0, -1, -2), -4);
        DUE.is("fewer elements", x.orders(0, 22, -1), -5);
        DUE.is("fewer elements, n above 20", x.orders(3, 21, -1), -5);
        DUE.is("i -2 ahead of n above 20", x.orders(0, 21, -2), -5);
        DUE.is("n above 20", x.orders(0, 21, -1), -6);
        DUE.is("n above 20 ahead of i", x.orders(0, 21, 99), -6);
        DUE.is("n 20", x.orders(0, 20, -1), 1);
        DUE.is("n 20, i 2", x.orders(0, 20, 2), -5);
        DUE.is("refusals", Due.refusals(x), 2_01_01_01_04_02_00L);
        long[] wrong = {0, 77, 11, 8, 18, 78, 80, 81, 87, 90, 100, -1, -10, -12, -128};
        for (long pair : wrong) {
            Due.row(x, 3, 0, pair);
            DUE.is("pair " + pair, x.orders(3, 1, -1), -6);
            DUE.is("pair " + pair + ", i too great", x.orders(3, 1, 9), -6);
            DUE.is("pair " + pair + ", i -2", x.orders(3, 1, -2), -5);
            DUE.is("pair " + pair + " forged", x.forged(3, 1), -16);
        }
        long[] right = {1, 7, 10, 17, 70, 71, 76, 67};
        for (long pair : right) {
            Due.row(x, 3, 0, pair);
            DUE.is("pair " + pair, x.orders(3, 1, -1), 1);
        }
        Due.row(x, 3, 0, 10, 1);
        DUE.is("no order, counted", x.orders(3, 2, -1), 0);
        DUE.is("no order, its first", x.orders(3, 2, 0), -5);
        DUE.is("no order, n 1", x.orders(3, 1, 0), 0);
        Due.row(x, 3, 0, 76, 10, 1);
        DUE.is("no order, though one may begin", x.orders(3, 3, 0), -5);
    }

    private static void forgedIs(int due, long... pairs) {
        PaintedOver x = new PaintedOver();
        Due.row(x, 0, 1, pairs);
        DUE.is("forged of " + java.util.Arrays.toString(pairs), x.forged(0, pairs.length), due);
        DUE.is("no refusal", Due.refusals(x), 0);
    }

    private static void forged() {
        forgedIs(-1);
        forgedIs(-1, 10);
        forgedIs(1, 10, 1);
        forgedIs(1, 1, 10, 21, 12);
        forgedIs(2, 10, 21, 2);
        forgedIs(3, 10, 54, 21, 2, 45);
        forgedIs(-1, 10, 21, 20, 10);
        forgedIs(7, 10, 21, 32, 43, 54, 65, 76, 7, 70);
        forgedIs(2, 76, 32, 23, 67);
    }

    private static void forgedRefusals() {
        PaintedOver x = new PaintedOver();
        x.house(0, 0);
        x.show(1, 0);
        x.row(0, 0, 21);
        for (int i = 0; i < 21; i++) {
            x.set(0, i, 10);
        }
        DUE.is("forged of 8", x.forged(8, -1), -11);
        DUE.is("forged of -1", x.forged(-1, 0), -11);
        DUE.is("forged of a house", x.forged(1, -1), -12);
        DUE.is("forged of nothing", x.forged(2, -1), -13);
        DUE.is("n below 0", x.forged(0, -1), -14);
        DUE.is("fewer elements", x.forged(0, 22), -15);
        DUE.is("n above 20", x.forged(0, 21), -16);
        DUE.is("n 20", x.forged(0, 20), -1);
        x.set(0, 1, 1);
        DUE.is("only the first n", x.forged(0, 1), -1);
        DUE.is("one more", x.forged(0, 2), 1);
        x.set(0, 2, 99);
        DUE.is("elements ahead of what is forged", x.forged(0, 3), -16);
        DUE.is("refusals", Due.refusals(x), 2_01_01_01_01_02_00L);
    }

    private static void lanes() {
        PaintedOver x = Due.threeCoats(0, 0);
        x.house(0, 0);
        DUE.is("lane", x.lane(0, 1), 30);
        DUE.is("the other way", x.lane(1, 0), 30);
        x.coat(1, 0, 0, 9, 0);
        x.coat(1, 0, 0, 9, 1);
        x.coat(1, 0, 0, 9, 2);
        x.coat(1, 0, 0, 9, 2);
        DUE.is("narrow", x.lane(0, 1), 40 - 10 - 36);
        x.ask(1, 99);
        DUE.is("wide", x.lane(0, 1), 99 - 46);
        for (int cell = 3; cell < 12; cell++) {
            x.scratch(1, cell);
        }
        DUE.is("the greatest that is left", x.lane(1, 0), 99 - 10 - 27);
        DUE.is("no house 2", x.lane(0, 2), -1001);
        DUE.is("no house 2 to 2", x.lane(2, 2), -1001);
        DUE.is("no house -1", x.lane(-1, 0), -1001);
        DUE.is("to house -1", x.lane(0, -1), -1001);
        DUE.is("the same", x.lane(1, 1), -1006);
        DUE.is("refusals", Due.refusals(x), 4_00_00_00_00_01_00L);
    }

    private static void lanesByTheGreatest() {
        for (int cell = 0; cell < 12; cell++) {
            PaintedOver x = new PaintedOver();
            x.house(0, 0);
            x.house(0, 0);
            x.coat(0, 0, 0, 9, 0);
            x.coat(0, 0, 0, 8, 1);
            for (int other = 0; other < 12; other++) {
                if (other != cell) {
                    x.scratch(0, other);
                    x.scratch(0, other);
                }
            }
            int left = cell == 0 ? 8 : cell == 1 ? 9 : 17;
            DUE.is("lane by the depth of " + cell, x.lane(0, 1), 40 - left);
        }
    }

    private static void prices() {
        PaintedOver x = Due.threeCoats(0, 0);
        x.colour(5, 1, 50);
        x.colour(1, 1, 7);
        x.colour(2, 1, 3);
        int[][] due = {{0, 10}, {1, 57}, {11, 50}, {18, 50}, {19, 0}, {99, 0}};
        for (int[] pair : due) {
            DUE.is("price at " + pair[0], x.price(0, pair[0]), pair[1]);
        }
        x.coat(0, 0, 1, 5, 4);
        DUE.is("each colour once", x.price(0, 10), 7);
        DUE.is("each colour once, dry: gap 4 shows another", x.price(0, 0), 10);
        x.colour(0, 1, 99);
        x.coat(0, 0, 0, 1, 5);
        DUE.is("99 and 7", x.price(0, 0), 106);
        x.house(0, 0);
        DUE.is("no coats", x.price(1, 0), 0);
    }

    private static void houseRefusals() {
        PaintedOver x = new PaintedOver();
        x.house(0, 0);
        DUE.is("price of no house", x.price(1, 100), -1);
        DUE.is("price of house -1", x.price(-1, 0), -1);
        DUE.is("price at 100", x.price(0, 100), -6);
        DUE.is("price at -1", x.price(0, -1), -6);
        DUE.is("refusals", Due.refusals(x), 2_00_00_00_00_02_00L);
    }
}
