/** Promises 9 to 14: houses, colours, what is asked, coats. */
public final class HousesTest {
    private static final Due DUE = new Due("HousesTest");

    public static void main(String[] args) {
        houses();
        housesOf();
        colours();
        asks();
        coats();
        coatsOf();
        strengths();
        DUE.end();
    }

    private static void houses() {
        PaintedOver x = new PaintedOver();
        DUE.is("kind 7", x.house(7, 10), -1);
        DUE.is("kind -1", x.house(-1, 0), -1);
        DUE.is("a 10", x.house(0, 10), -6);
        DUE.is("a -1", x.house(0, -1), -6);
        for (int n = 0; n < 6; n++) {
            DUE.is("house " + n, x.house(n + 1, n == 5 ? 9 : n), n);
            DUE.is("houses", x.status(0), n + 1);
        }
        DUE.is("kind ahead of all", x.house(7, 10), -1);
        DUE.is("a ahead of room", x.house(0, 10), -6);
        DUE.is("a seventh", x.house(0, 0), -7);
        DUE.is("houses stay", x.status(0), 6);
        DUE.is("refusals", Due.refusals(x), 3_00_00_00_00_03_01L);
    }

    private static void housesOf() {
        PaintedOver x = new PaintedOver();
        x.house(3, 7);
        x.house(6, 0);
        DUE.is("coats at first", x.houseOf(0, 2), 0);
        DUE.is("skin at first", x.houseOf(0, 3), 0);
        DUE.is("lived at first", x.houseOf(0, 4), 0);
        x.coat(0, 7, 0, 9, 11);
        x.coat(0, 2, 1, 1, 0);
        x.coat(0, 7, 2, 2, 11);
        x.coat(1, 1, 2, 2, 11);
        DUE.is("kind", x.houseOf(0, 0), 3);
        DUE.is("a", x.houseOf(0, 1), 7);
        DUE.is("coats", x.houseOf(0, 2), 3);
        DUE.is("skin", x.houseOf(0, 3), 11 * 12);
        DUE.is("lived", x.houseOf(0, 4), 1 << 7 | 1 << 2);
        DUE.is("kind of the other", x.houseOf(1, 0), 6);
        DUE.is("a of the other", x.houseOf(1, 1), 0);
        DUE.is("coats of the other", x.houseOf(1, 2), 1);
        DUE.is("coats in all", x.status(1), 4);
        DUE.is("no house 2", x.houseOf(2, 0), -5);
        DUE.is("no house -1", x.houseOf(-1, 0), -5);
        DUE.is("what 5", x.houseOf(0, 5), -5);
        DUE.is("what -1", x.houseOf(0, -1), -5);
        DUE.is("refusals", Due.refusals(x), 4_00_00L);
    }

    private static void colours() {
        PaintedOver x = new PaintedOver();
        DUE.is("hides", x.colour(5, 0, 9), 3);
        DUE.is("hides again", x.colour(5, 0, 0), 9);
        DUE.is("hides at last", x.colour(5, 0, 1), 0);
        DUE.is("costs", x.colour(5, 1, 99), 1);
        DUE.is("costs again", x.colour(5, 1, 0), 99);
        DUE.is("costs at last", x.colour(5, 1, 10), 0);
        DUE.is("colour 6", x.colour(6, 2, -1), -1);
        DUE.is("colour -1", x.colour(-1, 0, 0), -1);
        DUE.is("what 2", x.colour(0, 2, -1), -5);
        DUE.is("what -1", x.colour(0, -1, 1), -5);
        DUE.is("hides 10", x.colour(5, 0, 10), -6);
        DUE.is("hides -1", x.colour(5, 0, -1), -6);
        DUE.is("costs 100", x.colour(5, 1, 100), -6);
        DUE.is("costs -1", x.colour(5, 1, -1), -6);
        DUE.is("hides unchanged", x.colour(5, 0, 3), 1);
        DUE.is("costs unchanged", x.colour(5, 1, 1), 10);
        DUE.is("others unchanged", x.colour(4, 0, 3), 3);
        DUE.is("refusals", Due.refusals(x), 2_00_00_00_02_04_00L);
    }

    private static void asks() {
        PaintedOver x = new PaintedOver();
        DUE.is("limit", x.ask(0, 1), 300);
        DUE.is("limit told", x.status(2), 1);
        DUE.is("limit again", x.ask(0, 999), 1);
        DUE.is("limit at last", x.status(2), 999);
        DUE.is("wide", x.ask(1, 10), 40);
        DUE.is("wide told", x.status(3), 10);
        DUE.is("wide again", x.ask(1, 99), 10);
        DUE.is("limit 0", x.ask(0, 0), -6);
        DUE.is("limit 1000", x.ask(0, 1000), -6);
        DUE.is("wide 9", x.ask(1, 9), -6);
        DUE.is("wide 100", x.ask(1, 100), -6);
        DUE.is("what 2", x.ask(2, 50), -6);
        DUE.is("what -1", x.ask(-1, 50), -6);
        DUE.is("limit unchanged", x.status(2), 999);
        DUE.is("wide unchanged", x.status(3), 99);
        DUE.is("refusals", Due.refusals(x), 6_00L);
    }

    private static void coats() {
        PaintedOver x = new PaintedOver();
        x.house(0, 0);
        x.house(0, 0);
        DUE.is("no house 2", x.coat(2, 0, 0, 0, 0), -1);
        DUE.is("no house -1", x.coat(-1, 0, 0, 1, 0), -1);
        DUE.is("tenant 8", x.coat(0, 8, 0, 0, 0), -1);
        DUE.is("tenant -1", x.coat(0, -1, 0, 1, 0), -1);
        DUE.is("colour 6", x.coat(0, 0, 6, 1, 12), -1);
        DUE.is("colour -1", x.coat(0, 0, -1, 1, 0), -1);
        DUE.is("thick 0", x.coat(0, 0, 0, 0, 0), -6);
        DUE.is("thick 10", x.coat(0, 0, 0, 10, 0), -6);
        DUE.is("gap 12", x.coat(0, 0, 0, 1, 12), -6);
        DUE.is("gap -1", x.coat(0, 0, 0, 1, -1), -6);
        DUE.is("no coats yet", x.status(1), 0);
        for (int place = 0; place < 8; place++) {
            DUE.is("place " + place, x.coat(0, place, place % 6, 9 - place, 11 - place), place);
        }
        DUE.is("nobody ahead of room", x.coat(0, 8, 0, 1, 0), -1);
        DUE.is("wrong ahead of room", x.coat(0, 0, 0, 10, 0), -6);
        DUE.is("wrong gap ahead of room", x.coat(0, 0, 0, 1, 12), -6);
        DUE.is("a ninth", x.coat(0, 0, 0, 1, 0), -7);
        DUE.is("room on the other", x.coat(1, 7, 5, 9, 0), 0);
        DUE.is("coats in all", x.status(1), 9);
        DUE.is("refusals", Due.refusals(x), 7_00_00_00_00_06_01L);
    }

    private static void coatsOf() {
        PaintedOver x = new PaintedOver();
        x.house(0, 0);
        x.coat(0, 7, 5, 9, 11);
        x.coat(0, 1, 2, 3, 4);
        int[] lowest = {7, 5, 9, 11, 0, 27, 0x7FF};
        int[] upper = {1, 2, 3, 4, 0, 9, 0xFEF};
        for (int what = 0; what < 7; what++) {
            DUE.is("lowest coat's " + what, x.coatOf(0, 0, what), lowest[what]);
            DUE.is("upper coat's " + what, x.coatOf(0, 1, what), upper[what]);
        }
        x.scratch(0, 0);
        x.scratch(0, 4);
        DUE.is("upper coat's cells", x.coatOf(0, 1, 6), 0xFEE);
        DUE.is("lowest coat's cells", x.coatOf(0, 0, 6), 0x7EF);
        DUE.is("no coat 2", x.coatOf(0, 2, 0), -5);
        DUE.is("no coat -1", x.coatOf(0, -1, 0), -5);
        DUE.is("no house 1", x.coatOf(1, 0, 0), -5);
        DUE.is("no house -1", x.coatOf(-1, 0, 0), -5);
        DUE.is("what 7", x.coatOf(0, 0, 7), -5);
        DUE.is("what -1", x.coatOf(0, 0, -1), -5);
        DUE.is("refusals", Due.refusals(x), 6_00_00L);
        x.coat(0, 3, 3, 1, 5);
        DUE.is("one that comes on top lies where others are gone", x.coatOf(0, 2, 6), 0xFDF);
    }

    private static void strengths() {
        PaintedOver x = new PaintedOver();
        x.colour(0, 0, 9);
        x.colour(1, 0, 0);
        for (int kind = 1; kind < 7; kind++) {
            int house = x.house(kind, 9);
            x.coat(house, 0, 0, 9, 0);
            x.coat(house, 0, 1, 9, 0);
            x.coat(house, 0, 2, 5, 0);
            DUE.is("strength 9 x 9 on kind " + kind, x.coatOf(house, 0, 5), kind == 4 ? 72 : 81);
            DUE.is("strength 0 on kind " + kind, x.coatOf(house, 1, 5), 0);
            DUE.is("strength 3 x 5 on kind " + kind, x.coatOf(house, 2, 5), kind == 4 ? 10 : 15);
        }
        x.colour(2, 0, 7);
        DUE.is("strength goes by what the colour hides now", x.coatOf(0, 2, 5), 35);
    }
}
