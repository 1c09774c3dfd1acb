/** Promises 33 to 37: hail, scratches, falls, years and the seed, in truth. */
public final class TruthTest {
    private static final Due DUE = new Due("TruthTest");

    public static void main(String[] args) {
        hail();
        hailByKinds();
        scratches();
        falls();
        yearByDraws();
        yearsOneAfterAnother();
        hailByDraws();
        yearsOnFullHouses();
        yearsWithFalls();
        yearsRefusals();
        seeds();
        DUE.end();
    }

    private static void hail() {
        PaintedOver x = Due.threeCoats(0, 0);
        x.house(0, 0);
        DUE.is("hail 2", x.hail(2), 0);
        DUE.is("hail 3: the uppermost but in its gap", x.hail(3), 11);
        DUE.is("cells of 2", x.coatOf(0, 2, 6), 0);
        DUE.is("cells of 1", x.coatOf(0, 1, 6), 0xFFD);
        DUE.is("hail 0", x.hail(0), 0);
        DUE.is("hail 2 in the gap of 1", x.hail(2), 1);
        DUE.is("cells of 0", x.coatOf(0, 0, 6), 0xFFC);
        DUE.is("hail 7: two in each, but 0 and 1", x.hail(7), 1 + 10 + 10);
        DUE.is("nothing left", x.skin(0), 0);
        DUE.is("hail 99 on nothing", x.hail(99), 0);
        DUE.is("the coats are still the house's", x.status(1), 3);
        x.coat(0, 0, 0, 2, 0);
        x.coat(1, 0, 0, 2, 0);
        DUE.is("on all houses", x.hail(2), 22);
        DUE.is("hail 100", x.hail(100), -6);
        DUE.is("hail -1", x.hail(-1), -6);
        DUE.is("refusals", Due.refusals(x), 2_00L);
    }

    private static void hailByKinds() {
        int[] went = {11, 11, 0, 11, 11, 0, 11};
        for (int kind = 0; kind < 7; kind++) {
            PaintedOver x = new PaintedOver();
            x.house(kind, 3);
            x.coat(0, 0, 0, 4, 11);
            DUE.is("hail 5 on kind " + kind, x.hail(5), went[kind]);
        }
        PaintedOver tiled = new PaintedOver();
        tiled.house(5, 3);
        tiled.coat(0, 0, 0, 4, 11);
        DUE.is("hail 7 on tiles", tiled.hail(7), 7);
        DUE.is("row 0 keeps it", tiled.coatOf(0, 0, 6), 0xF);
    }

    private static void scratches() {
        PaintedOver x = Due.threeCoats(0, 0);
        DUE.is("the uppermost", x.scratch(0, 2), 1);
        DUE.is("the next", x.scratch(0, 2), 0);
        DUE.is("nothing lies there", x.scratch(0, 2), -6);
        DUE.is("another cell", x.scratch(0, 3), 2);
        DUE.is("that cell alone", x.coatOf(0, 2, 6), 0xFF3);
        x.coat(0, 0, 0, 1, 0);
        DUE.is("what came on top", x.scratch(0, 2), 3);
        DUE.is("what is gone stays gone", x.scratch(0, 2), -6);
        DUE.is("no house 1", x.scratch(1, 12), -1);
        DUE.is("no house -1", x.scratch(-1, 0), -1);
        DUE.is("no cell 12", x.scratch(0, 12), -5);
        DUE.is("no cell -1", x.scratch(0, -1), -5);
        DUE.is("refusals", Due.refusals(x), 2_00_00_00_02_02_00L);
    }

    private static void falls() {
        PaintedOver x = new PaintedOver();
        for (int n = 0; n < 3; n++) {
            x.house(0, 0);
        }
        x.coat(0, 1, 0, 3, 0);
        x.coat(1, 1, 0, 2, 0);
        x.coat(2, 1, 0, 4, 0);
        x.ask(0, 44);
        DUE.is("none above the limit", x.falls(), 0);
        x.ask(0, 33);
        DUE.is("one above", x.falls(), 4);
        DUE.is("skins that fell", x.status(5), 1);
        DUE.is("its coats are no more", x.houseOf(2, 2), 0);
        DUE.is("its tenants", x.houseOf(2, 4), 0);
        DUE.is("the others' stay", x.status(1), 2);
        x.ask(0, 21);
        DUE.is("two above", x.falls(), 3);
        DUE.is("skins that fell in all", x.status(5), 3);
        DUE.is("no more of them", x.falls(), 0);
        DUE.is("houses stay", x.status(0), 3);
        x.coat(0, 0, 0, 9, 0);
        for (int cell = 1; cell < 12; cell += 2) {
            x.scratch(0, cell);
        }
        DUE.is("falls half laid bare", x.falls(), 1);
        DUE.is("a coat behind a fall", x.coat(0, 0, 0, 1, 0), 0);
        DUE.is("lies where one was gone", x.coatOf(0, 0, 6), 0xFFE);
        x.ask(0, 1);
        x.falls();
        x.coat(0, 0, 0, 2, 11);
        x.scratch(0, 0);
        DUE.is("falls scratched in cell 0", x.falls(), 1);
        x.coat(0, 0, 0, 1, 11);
        DUE.is("lies in cell 0 too", x.coatOf(0, 0, 6), 0x7FF);
        DUE.is("no refusals", Due.refusals(x), 0);
    }

    /** The year of seed 3, by hand: house, tenant, colour, thick and 1, gap, hail. */
    private static void yearByDraws() {
        PaintedOver x = new PaintedOver();
        for (int n = 0; n < 3; n++) {
            x.house(0, 0);
        }
        x.seed(3);
        DUE.is("skins that fell", x.years(1), 0);
        DUE.is("seed", x.status(6), 1035215989);
        DUE.is("year", x.status(4), 1);
        DUE.is("coats in all", x.status(1), 1);
        int[] told = {3, 3, 5, 2, 0, 15, 0xFFB};
        for (int what = 0; what < 7; what++) {
            DUE.is("coat's " + what, x.coatOf(1, 0, what), told[what]);
        }
        PaintedOver y = new PaintedOver();
        y.house(0, 0);
        y.seed(7);
        y.years(1);
        DUE.is("seed below 0", y.status(6), -1926921127);
        DUE.is("gap by draw", y.coatOf(0, 0, 3), 11);
        DUE.is("thick by draw", y.coatOf(0, 0, 2), 4);
        DUE.is("gone by hail of 5", y.coatOf(0, 0, 6), 0);
        PaintedOver z = new PaintedOver();
        z.house(0, 0);
        z.years(1);
        DUE.is("seed 1 at first", z.status(6), -1778682749);
        DUE.is("thick 1", z.coatOf(0, 0, 2), 1);
        DUE.is("tenant 6", z.coatOf(0, 0, 0), 6);
        DUE.is("no refusals", Due.refusals(z), 0);
    }

    private static void yearsOneAfterAnother() {
        PaintedOver x = new PaintedOver();
        x.house(0, 0);
        x.house(0, 0);
        x.seed(144);
        x.years(2);
        DUE.is("seed", x.status(6), 108519508);
        DUE.is("year", x.status(4), 2);
        int[] first = {2, 4, 1, 11, 0};
        int[] second = {3, 1, 2, 4, 1};
        for (int what = 0; what < 5; what++) {
            DUE.is("first coat's " + what, x.coatOf(0, 0, what), first[what]);
            DUE.is("second coat's " + what, x.coatOf(0, 1, what), second[what]);
        }
        DUE.is("both gone by hail of 7", x.skin(0), 0);
        x.coat(1, 0, 0, 1, 0);
        DUE.is("a coat's year", x.coatOf(1, 0, 4), 2);
    }

    /** The draws of seed 70: thick 7, hail 7; those of seed 3: thick 5, hail 4. */
    private static void hailByDraws() {
        PaintedOver x = new PaintedOver();
        x.house(0, 0);
        x.seed(70);
        x.years(1);
        DUE.is("seed", x.status(6), -1335940448);
        DUE.is("thick 7", x.coatOf(0, 0, 2), 7);
        DUE.is("gone by hail of 7", x.skin(0), 0);
        PaintedOver y = new PaintedOver();
        y.house(0, 0);
        y.seed(3);
        y.years(1);
        DUE.is("5 stays by hail of 4", y.skin(0), 55);
    }

    private static void yearsOnFullHouses() {
        PaintedOver x = new PaintedOver();
        x.house(0, 0);
        x.ask(0, 999);
        for (int n = 0; n < 8; n++) {
            x.coat(0, 0, 0, 9, 0);
        }
        x.seed(4);
        DUE.is("no skin fell", x.years(1), 0);
        DUE.is("no ninth coat", x.status(1), 8);
        DUE.is("nothing painted over", x.coatOf(0, 7, 0), 0);
        DUE.is("the draws are made", x.status(6), 294681710);
        DUE.is("year", x.status(4), 1);
        DUE.is("no refusals", Due.refusals(x), 0);
    }

    private static void yearsWithFalls() {
        PaintedOver x = new PaintedOver();
        x.house(0, 0);
        x.ask(0, 32);
        x.seed(4);
        DUE.is("a skin of 33 fell", x.years(1), 1);
        DUE.is("told", x.status(5), 1);
        DUE.is("coats", x.status(1), 0);
        x.seed(4);
        DUE.is("those of this call", x.years(1), 1);
        DUE.is("those in all", x.status(5), 2);
        x.ask(0, 33);
        x.seed(4);
        DUE.is("a skin of 33 stays", x.years(1), 0);
        DUE.is("stays", x.status(1), 1);
        DUE.is("its year", x.coatOf(0, 0, 4), 2);
        PaintedOver y = new PaintedOver();
        y.house(0, 0);
        y.house(0, 0);
        y.ask(0, 1);
        y.coat(1, 0, 0, 9, 0);
        y.seed(7);
        DUE.is("hail ahead of falls, on all", y.years(1), 1);
        DUE.is("gone by hail didn't fall", y.houseOf(0, 2), 1);
        DUE.is("the other fell", y.houseOf(1, 2), 0);
    }

    private static void yearsRefusals() {
        PaintedOver x = new PaintedOver();
        DUE.is("no houses", x.years(0), -5);
        DUE.is("no houses, 41", x.years(41), -5);
        x.house(0, 0);
        DUE.is("0", x.years(0), -6);
        DUE.is("-1", x.years(-1), -6);
        DUE.is("41", x.years(41), -6);
        DUE.is("refusals", Due.refusals(x), 2_03_00L);
        DUE.is("no year passed", x.status(4), 0);
        DUE.is("no draw was made", x.status(6), 1);
        x.ask(0, 999);
        DUE.is("40", x.years(40) >= 0 ? 1 : 0, 1);
        DUE.is("40 passed", x.status(4), 40);
    }

    private static void seeds() {
        PaintedOver x = new PaintedOver();
        DUE.is("seed", x.seed(Integer.MIN_VALUE), 1);
        DUE.is("seed again", x.seed(-1), Integer.MIN_VALUE);
        DUE.is("seed told", x.status(6), -1);
        DUE.is("seed at last", x.seed(0), -1);
        DUE.is("no refusals", Due.refusals(x), 0);
    }
}
