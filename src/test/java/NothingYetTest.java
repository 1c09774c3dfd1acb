/** What each call answers where there is nothing yet: no houses, no coats, rows of no elements, no image, no trace. */
public final class NothingYetTest {
    private static final Due DUE = new Due("NothingYetTest");
    private static final int[] WEATHERS = {0, 1, 10, 99};

    public static void main(String[] args) {
        shelvesWithNothing();
        noHouses();
        noHousesToSee();
        noHousesInTruth();
        noCoatsToTell();
        noCoatsToSee();
        noCoatsInTruth();
        noElements();
        noTenantsNamed();
        noImage();
        imageOfNothing();
        noTrace();
        noShelves();
        DUE.end();
    }

    private static void shelvesWithNothing() {
        PaintedOver x = new PaintedOver();
        for (int s = 0; s < 8; s++) {
            DUE.is("holds " + s, x.holds(s), -1);
            DUE.is("element of " + s, x.element(s, 0), 0);
            DUE.is("set on " + s, x.set(s, 0, 1), -3);
            DUE.is("copy from " + s, x.copy(s, (s + 1) % 8, 0, 0, 0), -3);
            DUE.is("says of " + s, x.says(s, s % 7), -3);
            DUE.is("street of " + s, x.street(s), -3);
            DUE.is("orders of " + s, x.orders(s, 0, -1), -3);
            DUE.is("forged of " + s, x.forged(s, 0), -13);
            DUE.is("show NONE on " + s, x.show(s, -1), 0);
            DUE.is("show house 0 on " + s, x.show(s, 0), -1);
            DUE.is("holds nothing still " + s, x.holds(s), -1);
        }
        DUE.is("refusals", Due.refusals(x), 8_00_48_00_00_00_00L);
    }

    private static void noHouses() {
        PaintedOver x = new PaintedOver();
        int[] status = {0, 0, 300, 40, 0, 0, 1, 0, -1, -1, -1, 0, 0, 0, 0, 0, 0, 0, -1};
        for (int what = 0; what < status.length; what++) {
            DUE.is("status " + what, x.status(what), status[what]);
        }
        DUE.is("house 0's kind", x.houseOf(0, 0), -5);
        DUE.is("coat 0's tenant", x.coatOf(0, 0, 0), -5);
        DUE.is("a coat", x.coat(0, 0, 0, 1, 0), -1);
        DUE.is("refusals", Due.refusals(x), 1_00_00_00_02_00_00L);
        for (int tenant = 0; tenant < 8; tenant++) {
            DUE.is("houses of " + tenant, x.moves(tenant, 0), 0);
            DUE.is("coats of " + tenant, x.moves(tenant, 1), 0);
        }
        DUE.is("hides", x.colour(0, 0, 9), 3);
        DUE.is("costs", x.colour(0, 1, 9), 1);
        DUE.is("limit", x.ask(0, 1), 300);
        DUE.is("wide", x.ask(1, 10), 40);
        DUE.is("seed", x.seed(5), 1);
        DUE.is("the first house", x.house(0, 0), 0);
    }

    private static void noHousesToSee() {
        PaintedOver x = new PaintedOver();
        DUE.is("seen", x.seen(0, 0, 0), -11);
        DUE.is("wet", x.wet(0, 0, 0), -1);
        DUE.is("deep", x.deep(0, 0), -1);
        DUE.is("skin", x.skin(0), -1);
        DUE.is("hailed", x.hailed(0, 0, 0), -1);
        DUE.is("razor", x.razor(0, 0, 0), -11);
        DUE.is("hidden", x.hidden(0, 0), -1);
        DUE.is("shown", x.shown(0, 0), -1);
        DUE.is("firstWet", x.firstWet(0, 0), -11);
        DUE.is("paint", x.paint(0, 0, 0), -11);
        DUE.is("gap", x.gap(0, 0), -11);
        DUE.is("lane", x.lane(0, 1), -1001);
        DUE.is("lane of the same", x.lane(0, 0), -1001);
        DUE.is("price", x.price(0, 0), -1);
        DUE.is("refusals", Due.refusals(x), 14_00_00_00_00_00_00L);
    }

    private static void noHousesInTruth() {
        PaintedOver x = new PaintedOver();
        DUE.is("hail 0", x.hail(0), 0);
        DUE.is("hail 99", x.hail(99), 0);
        DUE.is("falls", x.falls(), 0);
        DUE.is("no skin fell", x.status(5), 0);
        DUE.is("scratch", x.scratch(0, 0), -1);
        DUE.is("years", x.years(1), -5);
        DUE.is("a year didn't pass", x.status(4), 0);
        DUE.is("no draw was made", x.status(6), 1);
        DUE.is("act", x.act(0, 0, 7), 0);
        DUE.is("refusals", Due.refusals(x), 1_00_00_00_01_00_00L);
    }

    private static void noCoatsToTell() {
        for (int kind = 0; kind < 7; kind++) {
            PaintedOver x = new PaintedOver();
            x.house(kind, 9);
            x.show(0, 0);
            DUE.is("kind", x.houseOf(0, 0), kind);
            DUE.is("a", x.houseOf(0, 1), 9);
            DUE.is("coats", x.houseOf(0, 2), 0);
            DUE.is("skin", x.houseOf(0, 3), 0);
            DUE.is("lived", x.houseOf(0, 4), 0);
            DUE.is("taken for HOUSE", x.says(0, 0), 0);
            DUE.is("coats in all", x.status(1), 0);
            DUE.is("no refusal yet", Due.refusals(x), 0);
            DUE.is("coat 0", x.coatOf(0, 0, 0), -5);
            DUE.is("coat 0's strength", x.coatOf(0, 0, 5), -5);
            DUE.is("razor", x.razor(0, 0, 0), -11);
            DUE.is("firstWet", x.firstWet(0, 0), -11);
            DUE.is("refusals", Due.refusals(x), 2_00_00_00_02_00_00L);
        }
        PaintedOver south = new PaintedOver();
        south.house(4, 9);
        south.show(0, 0);
        DUE.is("SOUTH without coats says 0", south.says(0, 4), 0);
    }

    private static void noCoatsToSee() {
        for (int kind = 0; kind < 7; kind++) {
            PaintedOver x = new PaintedOver();
            x.house(kind, 9);
            x.house(0, 0);
            for (int cell = 0; cell < 12; cell++) {
                for (int d : WEATHERS) {
                    DUE.is("the wall is seen in " + cell, x.seen(0, cell, d), -1);
                    DUE.is("hailed in " + cell, x.hailed(0, cell, d), 0);
                }
                DUE.is("deep in " + cell, x.deep(0, cell), 0);
            }
            for (int d : WEATHERS) {
                DUE.is("hidden at " + d, x.hidden(0, d), 0);
                DUE.is("shown by " + d, x.shown(0, d), 0);
                DUE.is("price at " + d, x.price(0, d), 0);
            }
            DUE.is("skin", x.skin(0), 0);
            DUE.is("paint", x.paint(0, 0, 0), 1);
            for (int tenant = 0; tenant < 8; tenant++) {
                DUE.is("gap for " + tenant, x.gap(0, tenant), 0);
            }
            DUE.is("lane", x.lane(0, 1), 40);
            DUE.is("no refusals", Due.refusals(x), 0);
        }
    }

    private static void noCoatsInTruth() {
        PaintedOver x = new PaintedOver();
        x.house(0, 0);
        x.ask(0, 1);
        DUE.is("hail", x.hail(99), 0);
        DUE.is("falls", x.falls(), 0);
        DUE.is("no skin fell", x.status(5), 0);
        for (int cell = 0; cell < 12; cell++) {
            DUE.is("scratch of " + cell, x.scratch(0, cell), -6);
        }
        DUE.is("refusals", Due.refusals(x), 12_00L);
        x.hail(99);
        DUE.is("the first coat", x.coat(0, 0, 0, 1, 11), 0);
        DUE.is("hail ahead of it takes none of it", x.coatOf(0, 0, 6), 0x7FF);
        DUE.is("a skin of 11 falls", x.falls(), 1);
        DUE.is("no coats are left", x.status(1), 0);
        DUE.is("a skin of none doesn't fall again", x.falls(), 0);
        DUE.is("one skin fell", x.status(5), 1);
    }

    private static void noElements() {
        for (int sort = 0; sort < 4; sort++) {
            PaintedOver x = new PaintedOver();
            DUE.is("row of no elements", x.row(0, sort, 0), 1);
            DUE.is("holds it", x.holds(0), 100 + sort);
            DUE.is("no element 0", x.element(0, 0), 0);
            DUE.is("copy of none onto itself", x.copy(0, 0, 0, 0, 0), 1);
            x.row(1, sort, 0);
            DUE.is("copy of none", x.copy(0, 1, 0, 0, 0), 1);
            DUE.is("no refusals", Due.refusals(x), 0);
            DUE.is("set 0", x.set(0, 0, 1), -5);
            DUE.is("set -1", x.set(0, -1, 1), -5);
            DUE.is("copy of one", x.copy(0, 1, 0, 0, 1), -5);
            DUE.is("copy of none from 1", x.copy(0, 1, 1, 0, 0), -5);
            DUE.is("copy of none to 1", x.copy(0, 1, 0, 1, 0), -5);
            DUE.is("street", x.street(0), -6);
            DUE.is("fault", x.fault(), 0);
            DUE.is("refusals", Due.refusals(x), 5_01_00L);
            x.row(0, sort, 3);
            x.set(0, 0, 10);
            x.row(0, sort, 0);
            DUE.is("what was there is there no more", x.element(0, 0), 0);
            DUE.is("nor is it told", x.orders(0, 1, -1), -5);
        }
    }

    private static void noTenantsNamed() {
        for (int sort = 0; sort < 4; sort++) {
            PaintedOver x = new PaintedOver();
            x.row(0, sort, 0);
            x.row(1, sort, 3);
            for (int s = 0; s < 2; s++) {
                DUE.is("one order of none", x.orders(s, 0, -1), 1);
                DUE.is("none forged", x.forged(s, 0), -1);
                DUE.is("no TENANT 0 of it", x.orders(s, 0, 0), -5);
                DUE.is("no TENANT 1 of it", x.orders(s, 0, 1), -5);
                DUE.is("none below NONE", x.orders(s, 0, -2), -5);
            }
            DUE.is("one of none", x.orders(0, 1, -1), -5);
            DUE.is("forged, one of none", x.forged(0, 1), -15);
            DUE.is("refusals", Due.refusals(x), 8_00_00L);
        }
    }

    private static void noImage() {
        PaintedOver x = new PaintedOver();
        DUE.is("restore", x.restore(), -6);
        x.house(3, 3);
        x.coat(0, 1, 1, 1, 1);
        x.show(0, 0);
        DUE.is("restore of what is", x.restore(), -6);
        DUE.is("house 0 stays", x.houseOf(0, 0), 3);
        DUE.is("its coat stays", x.coatOf(0, 0, 0), 1);
        DUE.is("the shelf stays", x.holds(0), 0);
        DUE.is("image", x.image(), 1);
        DUE.is("restore now", x.restore(), 1);
        DUE.is("restore twice", x.restore(), 1);
        DUE.is("refusals", Due.refusals(x), 2_00L);
    }

    /** An image of no houses is one. */
    private static void imageOfNothing() {
        PaintedOver x = new PaintedOver();
        DUE.is("image", x.image(), 0);
        for (int n = 0; n < 6; n++) {
            x.house(0, 0);
            x.coat(n, 0, 0, 1, 0);
            x.show(n, n);
        }
        x.row(7, 0, 1);
        x.years(40);
        DUE.is("restore", x.restore(), 0);
        DUE.is("no houses", x.status(0), 0);
        DUE.is("no coats", x.status(1), 0);
        DUE.is("no years", x.status(4), 0);
        DUE.is("seed 1", x.status(6), 1);
        for (int s = 0; s < 7; s++) {
            DUE.is("shelf " + s + " holds nothing", x.holds(s), -1);
        }
        DUE.is("but its row", x.holds(7), 100);
        DUE.is("house 0 is no more", x.skin(0), -1);
        DUE.is("house 0 anew", x.house(1, 2), 0);
        DUE.is("without coats", x.houseOf(0, 2), 0);
        DUE.is("without coats from the years", x.deep(0, 0), 0);
    }

    private static void noTrace() {
        PaintedOver x = new PaintedOver();
        int[] places = {Integer.MIN_VALUE, -1, 0, 1, 19, 20, 21, Integer.MAX_VALUE};
        for (int i : places) {
            DUE.is("trace " + i, x.trace(i), -1);
        }
        DUE.is("no bodies", x.status(7), 0);
        x.act(0, 0, 1);
        DUE.is("none by an act of no house", x.trace(0), -1);
        x.house(0, 0);
        DUE.is("none by a house", x.trace(0), -1);
        x.act(0, 2, 1);
        DUE.is("bodies of an act", x.status(7), 4);
        DUE.is("no such act", x.act(0, 3, 1), 0);
        for (int i : places) {
            DUE.is("trace " + i + " behind no such act", x.trace(i), -1);
        }
        DUE.is("no bodies behind it", x.status(7), 0);
        DUE.is("no refusals", Due.refusals(x), 0);
    }

    private static void noShelves() {
        int[] none = {Integer.MIN_VALUE, -1, 8, Integer.MAX_VALUE};
        for (int s : none) {
            PaintedOver x = new PaintedOver();
            DUE.is("holds of " + s, x.holds(s), -1);
            DUE.is("element of " + s, x.element(s, 0), 0);
            DUE.is("no refusals", Due.refusals(x), 0);
            DUE.is("row on " + s, x.row(s, 0, 0), -1);
            DUE.is("show on " + s, x.show(s, -1), -1);
            DUE.is("refusals", Due.refusals(x), 2_00_00_00_00_00_00L);
        }
    }
}
