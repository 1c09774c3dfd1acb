/** Promises 40 to 42: the image, what restoring brings back, and the status. */
public final class ImageTest {
    private static final Due DUE = new Due("ImageTest");

    public static void main(String[] args) {
        restored();
        notInTheImage();
        shelvesOfHouses();
        imagesAnew();
        imageBehindAStreet();
        statuses();
        DUE.end();
    }

    private static PaintedOver furnished() {
        PaintedOver x = new PaintedOver();
        x.house(3, 4);
        x.house(6, 2);
        x.coat(0, 1, 2, 3, 4);
        x.coat(0, 5, 5, 9, 7);
        x.coat(1, 7, 1, 6, 11);
        x.scratch(0, 0);
        x.colour(2, 0, 8);
        x.colour(5, 1, 44);
        x.ask(0, 250);
        x.ask(1, 33);
        x.seed(77);
        return x;
    }

    private static void isFurnished(PaintedOver x) {
        int[] status = {2, 3, 250, 33, 0, 0, 77};
        for (int what = 0; what < status.length; what++) {
            DUE.is("status " + what, x.status(what), status[what]);
        }
        int[][] houses = {{3, 4, 2, 33 + 90, 34}, {6, 2, 1, 66, 128}};
        int[][][] coats = {{{1, 2, 3, 4, 0, 24, 0xFEF}, {5, 5, 9, 7, 0, 27, 0xF7E}}, {{7, 1, 6, 11, 0, 18, 0x7FF}}};
        for (int house = 0; house < houses.length; house++) {
            for (int what = 0; what < 5; what++) {
                DUE.is("house " + house + "'s " + what, x.houseOf(house, what), houses[house][what]);
            }
            for (int coat = 0; coat < coats[house].length; coat++) {
                for (int what = 0; what < 7; what++) {
                    DUE.is("coat's " + what, x.coatOf(house, coat, what), coats[house][coat][what]);
                }
            }
        }
        DUE.is("wet of the cellar", x.wet(0, 8, 10), 28);
        DUE.is("wet of the bare", x.wet(1, 8, 10), 10);
        DUE.is("hailed of the bare", x.hailed(1, 0, 4) + 10 * x.hailed(1, 0, 5), 1);
        DUE.is("hides", x.colour(2, 0, 8), 8);
        DUE.is("costs", x.colour(5, 1, 44), 44);
        DUE.is("other costs", x.colour(0, 1, 1), 1);
    }

    private static void change(PaintedOver x) {
        x.hail(20);
        x.colour(2, 0, 1);
        x.colour(5, 1, 2);
        x.colour(0, 1, 9);
        x.ask(0, 1);
        x.ask(1, 10);
        x.house(5, 9);
        x.coat(1, 0, 0, 1, 0);
        x.years(3);
        x.falls();
    }

    private static void restored() {
        PaintedOver x = furnished();
        isFurnished(x);
        DUE.is("no image yet", x.restore(), -6);
        isFurnished(x);
        DUE.is("image", x.image(), 2);
        change(x);
        DUE.is("restore", x.restore(), 2);
        isFurnished(x);
        change(x);
        change(x);
        DUE.is("restore again", x.restore(), 2);
        isFurnished(x);
        DUE.is("refusals", Due.refusals(x), 1_00L);
        PaintedOver y = new PaintedOver();
        DUE.is("image of none", y.image(), 0);
        y.house(0, 0);
        y.coat(0, 0, 0, 5, 5);
        DUE.is("restore of none", y.restore(), 0);
        DUE.is("no houses", y.status(0), 0);
        DUE.is("house built anew", y.house(1, 1), 0);
        DUE.is("is bare", y.houseOf(0, 2), 0);
        DUE.is("of its kind", y.houseOf(0, 0), 1);
    }

    private static void notInTheImage() {
        PaintedOver x = furnished();
        x.image();
        x.act(1, 2, 3);
        Due.text(x, 3, 1, "hail");
        x.street(3);
        x.set(8, 0, 0);
        x.restore();
        DUE.is("the trace stays", x.trace(0), 12);
        DUE.is("bodies stay", x.status(7), 8);
        DUE.is("the fault stays", x.fault(), 4);
        DUE.is("refusals stay", Due.refusals(x), 1_00_00_00_00_01_00L);
        DUE.is("rows stay", x.holds(3), 101);
        DUE.is("elements stay", x.element(3, 1), 'a');
    }

    private static void shelvesOfHouses() {
        PaintedOver x = furnished();
        x.show(0, 1);
        x.show(1, 0);
        x.image();
        x.house(1, 1);
        x.show(0, 2);
        x.show(2, 1);
        x.show(3, 2);
        x.row(4, 3, 1);
        x.show(7, 2);
        x.show(1, -1);
        x.restore();
        int[] held = {-1, -1, 1, -1, 103, -1, -1, -1};
        for (int s = 0; s < 8; s++) {
            DUE.is("shelf " + s, x.holds(s), held[s]);
        }
        DUE.is("a house of the number", x.says(2, 6), 2);
    }

    private static void imagesAnew() {
        PaintedOver x = furnished();
        x.image();
        x.house(0, 0);
        DUE.is("image anew", x.image(), 3);
        x.house(0, 0);
        DUE.is("restores the latest", x.restore(), 3);
        x.coat(2, 0, 0, 9, 0);
        x.ask(0, 1);
        x.falls();
        DUE.is("fallen", x.status(5), 3);
        x.image();
        x.years(2);
        x.restore();
        DUE.is("fallen in the image", x.status(5), 3);
        DUE.is("no refusals", Due.refusals(x), 0);
    }

    private static void imageBehindAStreet() {
        PaintedOver x = furnished();
        x.image();
        DUE.is("street", Due.street(x, "house 0 0;coat 0 0 0 1 0;hail 30;hides 2 0"), 4);
        DUE.is("street's fault", Due.street(x, "house 0 0;coat 0 0 0 1 0;hail 30;x"), -6);
        DUE.is("restore", x.restore(), 2);
        isFurnished(x);
        DUE.is("street behind it", Due.street(x, "house 0 0;scratch 1 5"), 2);
        DUE.is("restore again", x.restore(), 2);
        isFurnished(x);
    }

    private static void statuses() {
        PaintedOver x = furnished();
        int[] none = {-1, 8, 9, 10, 18, 19, Integer.MAX_VALUE, Integer.MIN_VALUE};
        for (int what : none) {
            DUE.is("status " + what, x.status(what), -1);
        }
        x.skin(9);
        x.says(0, 0);
        Due.row(x, 0, 0, 1);
        x.says(0, 0);
        x.set(1, 0, 0);
        x.copy(0, 0, 0, 0, -1);
        x.deep(0, 12);
        x.hail(100);
        x.row(0, 0, 161);
        x.lane(0, 0);
        x.lane(0, 9);
        x.forged(1, 0);
        x.paint(0, 12, 0);
        int[] refusals = {2, 1, 3, 1, 1, 3, 1};
        for (int n = 0; n < 7; n++) {
            DUE.is("refusals -" + (n + 1), x.status(11 + n), refusals[n]);
        }
        isFurnished(x);
    }
}
