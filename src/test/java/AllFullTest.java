/** What is as full as may be: 6 houses, 8 coats, 160 elements, 20 pairs, the longest trace. */
public final class AllFullTest {
    private static final Due DUE = new Due("AllFullTest");
    private static final int SHORTS = 1;

    public static void main(String[] args) {
        sixHouses();
        eightCoats();
        eightCoatsSeen();
        eightCoatsInTruth();
        skinsOfEightCoats();
        lanesBetweenFullHouses();
        laneOfTheLeast();
        priceOfAllColours();
        movesOfAll();
        yearsOnFullHouses();
        aFullHouseFallsAndHasRoom();
        imageOfAFullStreet();
        allElements();
        wholeCopies();
        twentyPairs();
        twentyPairsForged();
        longestTrace();
        DUE.end();
    }

    /** Six houses of a kind; on each eight coats 9 thick by tenants 0 to 7, gaps 0 to 7. */
    private static PaintedOver full(int kind, int a) {
        PaintedOver x = new PaintedOver();
        for (int house = 0; house < 6; house++) {
            x.house(kind, a);
            for (int n = 0; n < 8; n++) {
                x.coat(house, n, n % 6, 9, n);
            }
        }
        return x;
    }

    private static void sixHouses() {
        for (int kind = 0; kind < 7; kind++) {
            PaintedOver x = new PaintedOver();
            for (int n = 0; n < 6; n++) {
                DUE.is("house", x.house(kind, n), n);
            }
            for (int n = 0; n < 6; n++) {
                DUE.is("kind of " + n, x.houseOf(n, 0), kind);
                DUE.is("a of " + n, x.houseOf(n, 1), n);
                DUE.is("show " + n, x.show(n, n), 1);
                DUE.is("holds " + n, x.holds(n), n);
            }
            DUE.is("houses", x.status(0), 6);
            DUE.is("no refusals", Due.refusals(x), 0);
            for (int other = 0; other < 7; other++) {
                DUE.is("a seventh", x.house(other, 0), -7);
            }
            DUE.is("a seventh by a text", Due.street(x, "house 0 0"), -6);
            DUE.is("its fault", x.fault(), 0);
            DUE.is("no house 6", x.houseOf(6, 0), -5);
            DUE.is("houses still", x.status(0), 6);
            DUE.is("refusals", Due.refusals(x), 1_01_07L);
        }
    }

    private static void eightCoats() {
        PaintedOver x = full(0, 0);
        DUE.is("coats in all", x.status(1), 48);
        for (int house = 0; house < 6; house++) {
            DUE.is("coats", x.houseOf(house, 2), 8);
            DUE.is("lived", x.houseOf(house, 4), 255);
            for (int n = 0; n < 8; n++) {
                DUE.is("tenant " + n, x.coatOf(house, n, 0), n);
                DUE.is("cells of " + n, x.coatOf(house, n, 6), 0xFFF & ~(1 << n));
            }
            DUE.is("no coat 8", x.coatOf(house, 8, 0), -5);
            DUE.is("a ninth", x.coat(house, 0, 0, 1, 0), -7);
            DUE.is("a ninth to paint", x.paint(house, 0, 0), -17);
            DUE.is("a ninth by a text", Due.street(x, "coat " + house + " 0 0 1 0"), -6);
            DUE.is("its fault", x.fault(), 5);
        }
        DUE.is("coats still", x.status(1), 48);
        DUE.is("refusals", Due.refusals(x), 6_06_12L);
    }

    private static void eightCoatsSeen() {
        PaintedOver x = full(0, 0);
        for (int cell = 0; cell < 12; cell++) {
            DUE.is("the uppermost that lies in " + cell, x.seen(0, cell, 27), cell == 7 ? 6 : 7);
            DUE.is("the wall behind all in " + cell, x.seen(0, cell, 28), -1);
            DUE.is("deep in " + cell, x.deep(0, cell), cell < 8 ? 63 : 72);
            DUE.is("hailed by 0 in " + cell, x.hailed(0, cell, 0), cell < 8 ? 255 & ~(1 << cell) : 255);
            DUE.is("hailed by 71 in " + cell, x.hailed(0, cell, 71), cell < 8 ? 0 : 1);
            DUE.is("hailed by 72 in " + cell, x.hailed(0, cell, 72), 0);
        }
        DUE.is("hailed by 62 in 0", x.hailed(0, 0, 62), 2);
        DUE.is("hidden dry", x.hidden(0, 0), 0x3F);
        DUE.is("hidden wet", x.hidden(0, 28), 255);
        DUE.is("shown by 8", x.shown(0, 8), 0);
        DUE.is("shown by 9", x.shown(0, 9), 1 << 5);
        DUE.is("shown by 99", x.shown(0, 99), 0);
        for (int n = 0; n < 8; n++) {
            int cell = n == 7 ? 0 : n == 6 ? 7 : n + 1;
            DUE.is("razor for " + n, x.razor(0, n, 0), cell);
            DUE.is("razor above " + n, x.razor(0, n, 1), n == 7 ? 0 : n == 6 ? 0 : 9 * (6 - n));
        }
        DUE.is("first wet of the uppermost", x.firstWet(0, 7), 0);
        DUE.is("first wet of the lowest", x.firstWet(0, 0), -1);
    }

    private static void eightCoatsInTruth() {
        PaintedOver x = full(0, 0);
        DUE.is("hail 8", x.hail(8), 0);
        DUE.is("hail 9: one of each cell", x.hail(9), 72);
        DUE.is("hail 99: all that is left", x.hail(99), 6 * (8 * 11 - 12));
        DUE.is("all coats are still the house's", x.status(1), 48);
        DUE.is("no room though nothing lies", x.coat(0, 0, 0, 1, 0), -7);
        DUE.is("nothing to scratch", x.scratch(0, 0), -6);
        PaintedOver y = full(0, 0);
        for (int n = 7; n >= 0; n--) {
            DUE.is("scratch to " + n, y.scratch(5, 11), n);
        }
        DUE.is("a ninth scratch", y.scratch(5, 11), -6);
        DUE.is("cell 11 is bare", y.deep(5, 11), 0);
        DUE.is("cell 10 is not", y.deep(5, 10), 72);
    }

    /** The greatest skin: 8 coats, 9 thick, in 11 cells. */
    private static void skinsOfEightCoats() {
        PaintedOver x = full(0, 0);
        DUE.is("skin", x.skin(5), 792);
        x.ask(0, 999);
        DUE.is("none above 999", x.falls(), 0);
        x.ask(0, 792);
        DUE.is("none above 792", x.falls(), 0);
        DUE.is("coats stay", x.status(1), 48);
        x.ask(0, 791);
        DUE.is("all above 791", x.falls(), 63);
        DUE.is("skins that fell", x.status(5), 6);
        DUE.is("no coats", x.status(1), 0);
        DUE.is("houses stay", x.status(0), 6);
        PaintedOver y = full(0, 0);
        DUE.is("all above 300", y.falls(), 63);
    }

    private static void lanesBetweenFullHouses() {
        PaintedOver x = full(0, 0);
        for (int house = 0; house < 6; house++) {
            for (int other = 0; other < 6; other++) {
                DUE.is("lane", x.lane(house, other), house == other ? -1006 : 40 - 144);
            }
        }
    }

    private static void laneOfTheLeast() {
        PaintedOver x = full(0, 0);
        x.ask(1, 10);
        DUE.is("the narrowest", x.lane(0, 5), -134);
        x.ask(1, 99);
        DUE.is("of 99", x.lane(5, 0), -45);
        DUE.is("no refusals", Due.refusals(x), 0);
    }

    /** In cell n the coat of colour n is seen, the others above it being scratched off. */
    private static void priceOfAllColours() {
        PaintedOver x = new PaintedOver();
        x.house(0, 0);
        for (int c = 0; c < 6; c++) {
            x.colour(c, 1, 99);
            x.colour(c, 0, 9);
            x.coat(0, 0, c, 9, 11);
        }
        for (int cell = 0; cell < 6; cell++) {
            for (int n = 5; n > cell; n--) {
                x.scratch(0, cell);
            }
        }
        DUE.is("price of six", x.price(0, 0), 594);
        DUE.is("price of six at 81", x.price(0, 81), 594);
        DUE.is("price at 82", x.price(0, 82), 0);
        for (int c = 0; c < 6; c++) {
            x.colour(c, 1, 0);
            DUE.is("price with some for nothing", x.price(0, 0), 99 * (5 - c));
        }
    }

    private static void movesOfAll() {
        PaintedOver x = new PaintedOver();
        for (int house = 0; house < 6; house++) {
            x.house(0, 0);
            for (int n = 0; n < 8; n++) {
                x.coat(house, 7, 0, 1, 0);
            }
        }
        DUE.is("houses", x.moves(7, 0), 63);
        DUE.is("coats", x.moves(7, 1), 48);
        DUE.is("lived", x.houseOf(5, 4), 128);
        for (int tenant = 0; tenant < 7; tenant++) {
            DUE.is("houses of " + tenant, x.moves(tenant, 0), 0);
            DUE.is("coats of " + tenant, x.moves(tenant, 1), 0);
        }
        DUE.is("gap of who is seen everywhere but in 0", x.gap(0, 7), 0);
        DUE.is("gap of another", x.gap(0, 0), 0);
    }

    /** Coats 9 thick that no hail below 8 takes, a limit that none exceeds: six draws a year, and nothing else. */
    private static void yearsOnFullHouses() {
        PaintedOver x = full(0, 0);
        x.ask(0, 999);
        long[] plain = Scene.lookAtTown(full(0, 0));
        int seed = 1;
        for (int n = 0; n < 240; n++) {
            seed = seed * 1103515245 + 12345;
        }
        DUE.is("40 years", x.years(40), 0);
        DUE.is("the draws are made", x.status(6), seed);
        DUE.is("40 years passed", x.status(4), 40);
        PaintedOver y = full(0, 0);
        y.ask(0, 999);
        y.years(40);
        y.seed(1);
        plain[2] = 999;
        plain[4] = 40;
        DUE.same("nothing else is changed", Scene.lookAtTown(y), plain);
    }

    private static void aFullHouseFallsAndHasRoom() {
        PaintedOver x = full(0, 0);
        x.scratch(0, 1);
        x.scratch(0, 1);
        x.falls();
        for (int n = 0; n < 8; n++) {
            DUE.is("place behind a fall", x.coat(0, 0, 0, 1, 0), n);
            DUE.is("lies where others were gone", x.coatOf(0, n, 6), 0xFFE);
        }
        DUE.is("a ninth behind a fall", x.coat(0, 0, 0, 1, 0), -7);
        PaintedOver y = full(0, 0);
        DUE.is("a year in which all fall", y.years(1), 6);
        DUE.is("all coats", y.status(1), 0);
    }

    private static void imageOfAFullStreet() {
        PaintedOver x = full(5, 9);
        DUE.is("image", x.image(), 6);
        x.hail(99);
        x.ask(0, 1);
        x.falls();
        DUE.is("restore", x.restore(), 6);
        DUE.same("all is as it was", Scene.lookAtTown(x), Scene.lookAtTown(full(5, 9)));
    }

    private static void allElements() {
        for (int sort = 0; sort < 4; sort++) {
            PaintedOver x = new PaintedOver();
            DUE.is("row of 160", x.row(7, sort, 160), 1);
            for (int i = 0; i < 160; i++) {
                DUE.is("set " + i, x.set(7, i, i - 80), 1);
            }
            for (int i = 0; i < 160; i++) {
                DUE.is("element " + i, x.element(7, i), i - 80);
            }
            DUE.is("no element 160", x.element(7, 160), 0);
            DUE.is("set 160", x.set(7, 160, 1), -5);
            DUE.is("row of 161", x.row(7, sort, 161), -7);
            DUE.is("the row stays", x.element(7, 159), 79);
            DUE.is("refusals", Due.refusals(x), 1_00_01L);
            DUE.is("row of 160 anew", x.row(7, sort, 160), 1);
            DUE.is("0 at first", x.element(7, 0) | x.element(7, 159) | x.element(7, 60), 0);
        }
    }

    private static void wholeCopies() {
        PaintedOver x = new PaintedOver();
        x.row(0, SHORTS, 160);
        x.row(1, SHORTS, 160);
        for (int i = 0; i < 160; i += 53) {
            x.set(0, i, 1000 + i);
        }
        DUE.is("copy of all", x.copy(0, 1, 0, 0, 160), 1);
        for (int i = 0; i < 160; i++) {
            DUE.is("copied " + i, x.element(1, i), i % 53 == 0 ? 1000 + i : 0);
        }
        DUE.is("copy of none at the very end", x.copy(0, 1, 160, 160, 0), 1);
        DUE.is("copy of the last", x.copy(0, 1, 159, 159, 1), 1);
        DUE.is("copy onto itself, up", x.copy(0, 0, 0, 1, 159), 1);
        DUE.is("the first stays", x.element(0, 0), 1000);
        DUE.is("the last came", x.element(0, 159), 0);
        DUE.is("one came up", x.element(0, 54), 1053);
        DUE.is("no refusals", Due.refusals(x), 0);
        DUE.is("copy of 161", x.copy(0, 1, 0, 0, 161), -5);
        DUE.is("copy of 160 from 1", x.copy(0, 1, 1, 0, 160), -5);
        DUE.is("copy of 160 to 1", x.copy(0, 1, 0, 1, 160), -5);
        DUE.is("copy of one at 160", x.copy(0, 1, 160, 0, 1), -5);
        DUE.is("copy of none behind the end", x.copy(0, 1, 161, 0, 0), -5);
        DUE.is("refusals", Due.refusals(x), 5_00_00L);
    }

    /** Each tenant over each that has a lower number, but the last pairs told twice: 20 pairs, one order. */
    private static final long[] TWENTY = {10, 21, 32, 43, 54, 65, 76, 20, 31, 42, 53, 64, 75, 30, 41, 52, 63, 74, 40, 51};

    private static void twentyPairs() {
        for (int sort = 0; sort < 4; sort++) {
            PaintedOver x = new PaintedOver();
            Due.row(x, 0, sort, TWENTY);
            DUE.is("pairs", TWENTY.length, 20);
            DUE.is("orders", x.orders(0, 20, -1), 1);
            for (int i = 0; i < 8; i++) {
                DUE.is("TENANT " + i, x.orders(0, 20, i), i);
            }
            DUE.is("none forged", x.forged(0, 20), -1);
            DUE.is("no TENANT 8", x.orders(0, 20, 8), -5);
            DUE.is("21 of 20", x.orders(0, 21, -1), -5);
            DUE.is("refusals", Due.refusals(x), 2_00_00L);
        }
        PaintedOver x = new PaintedOver();
        x.row(0, 0, 160);
        for (int i = 0; i < 160; i++) {
            x.set(0, i, i < 20 ? 70 + i % 7 : 99);
        }
        DUE.is("7 over all others: 5040", x.orders(0, 20, -1), 5040);
        DUE.is("the last of the first", x.orders(0, 20, 7), 7);
        DUE.is("21 are too many", x.orders(0, 21, -1), -6);
        DUE.is("160 are too many", x.orders(0, 160, -1), -6);
        DUE.is("161 aren't there", x.orders(0, 161, -1), -5);
        DUE.is("forged of 21", x.forged(0, 21), -16);
        DUE.is("forged of 160", x.forged(0, 160), -16);
        DUE.is("forged of 161", x.forged(0, 161), -15);
    }

    /** The twentieth pair is looked at: by it no order fits, or it may not be. */
    private static void twentyPairsForged() {
        PaintedOver x = new PaintedOver();
        Due.row(x, 0, 2, TWENTY);
        x.set(0, 19, 7);
        DUE.is("forged by the twentieth", x.forged(0, 20), 19);
        DUE.is("no order", x.orders(0, 20, -1), 0);
        DUE.is("none to be told of", x.orders(0, 20, 0), -5);
        DUE.is("19 fit", x.forged(0, 19), -1);
        DUE.is("an order of 19", x.orders(0, 19, -1), 1);
        x.set(0, 19, 77);
        DUE.is("the twentieth may not be", x.forged(0, 20), -16);
        DUE.is("nor in orders", x.orders(0, 20, -1), -6);
        DUE.is("19 fit still", x.forged(0, 19), -1);
        x.set(0, 19, 51);
        x.set(0, 0, 88);
        DUE.is("the first may not be", x.forged(0, 20), -16);
    }

    /** No act runs more than eight bodies: all are kept, and none is told behind them. */
    private static void longestTrace() {
        PaintedOver x = new PaintedOver();
        x.house(6, 2);
        x.act(0, 2, 10);
        int[] bodies = {12, 71, 30, 11, 70, 10, 70, 10};
        DUE.is("bodies that ran", x.status(7), 8);
        for (int i = 0; i < 25; i++) {
            DUE.is("body " + i, x.trace(i), i < 8 ? bodies[i] : -1);
        }
        for (int n = 0; n < 40; n++) {
            x.act(0, 2, n);
        }
        DUE.is("those of the latest act alone", x.status(7), 8);
        DUE.is("from its first", x.trace(0), 12);
        x.act(0, 0, 1);
        DUE.is("a shorter one", x.status(7), 2);
        DUE.is("its last", x.trace(1), 10);
        DUE.is("nothing of the longer one", x.trace(2), -1);
    }
}
