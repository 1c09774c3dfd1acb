/** Promises 15 and 16: streets read from texts, and their faults. */
public final class StreetTest {
    private static final Due DUE = new Due("StreetTest");

    public static void main(String[] args) {
        wholeStreet();
        hailAndScratches();
        leadingZeros();
        faultsOfWords();
        faultsOfNumbers();
        faultsBehindAHouse();
        roomForHouses();
        roomForCoats();
        nothingIsLyingThere();
        allOrNothing();
        allOrNothingAgain();
        kindsBehindAStreet();
        toldOverWhatThereIs();
        sortsOfRows();
        refusals();
        DUE.end();
    }

    private static void wholeStreet() {
        PaintedOver x = new PaintedOver();
        DUE.is("items", Due.street(x, "house 3 9;house 6 0;coat 1 7 5 9 11;hides 5 9;costs 0 99"), 5);
        DUE.is("no fault", x.fault(), -1);
        DUE.is("houses", x.status(0), 2);
        DUE.is("kind 0", x.houseOf(0, 0), 3);
        DUE.is("a 0", x.houseOf(0, 1), 9);
        DUE.is("kind 1", x.houseOf(1, 0), 6);
        int[] told = {7, 5, 9, 11, 0, 81, 0x7FF};
        for (int what = 0; what < 7; what++) {
            DUE.is("coat's " + what, x.coatOf(1, 0, what), told[what]);
        }
        DUE.is("no other coat", x.status(1), 1);
        DUE.is("hides", x.colour(5, 0, 3), 9);
        DUE.is("costs", x.colour(0, 1, 1), 99);
        DUE.is("refusals", Due.refusals(x), 0);
    }

    private static void hailAndScratches() {
        PaintedOver x = new PaintedOver();
        DUE.is("hail on all", Due.street(x, "house 0 0;house 2 3;coat 0 0 0 2 0;coat 1 0 0 2 0;hail 4"), 5);
        DUE.is("gone from the house", x.coatOf(0, 0, 6), 0);
        DUE.is("not from the limed", x.coatOf(1, 0, 6), 0xFFE);
        DUE.is("scratch", Due.street(x, "scratch 1 11;scratch 01 01"), 2);
        DUE.is("scratched", x.coatOf(1, 0, 6), 0x7FC);
        DUE.is("hail 99", Due.street(x, "hail 99"), 1);
        DUE.is("gone", x.coatOf(1, 0, 6), 0);
        DUE.is("coats stay", x.status(1), 2);
        DUE.is("scratch of cell 0", Due.street(x, "coat 0 3 3 1 11;scratch 0 0"), 2);
        DUE.is("scratched in cell 0", x.coatOf(0, 1, 6), 0x7FE);
        PaintedOver y = new PaintedOver();
        y.house(0, 0);
        y.seed(2);
        y.years(1);
        DUE.is("a coat told", Due.street(y, "coat 0 1 1 1 1"), 1);
        DUE.is("has the year of now", y.coatOf(0, 1, 4), 1);
    }

    private static void leadingZeros() {
        PaintedOver x = new PaintedOver();
        DUE.is("zeros", Due.street(x, "house 00 09;coat 00 07 05 09 11;hides 01 09;costs 01 09;hail 00"), 5);
        DUE.is("a", x.houseOf(0, 1), 9);
        DUE.is("thick", x.coatOf(0, 0, 2), 9);
        DUE.is("hides", x.colour(1, 0, 3), 9);
        DUE.is("costs", x.colour(1, 1, 3), 9);
    }

    private static void faultOf(String text, int fault) {
        faultOn(new PaintedOver(), text, fault);
    }

    private static void faultOn(PaintedOver x, String text, int fault) {
        DUE.is("street '" + text + "'", Due.street(x, text), -6);
        DUE.is("fault of '" + text + "'", x.fault(), fault);
    }

    private static void faultsOfWords() {
        faultOf("", 0);
        faultOf(" ", 0);
        faultOf("x", 0);
        faultOf(";", 0);
        faultOf("H", 0);
        faultOf("0", 0);
        faultOf("h", 1);
        faultOf("hx", 1);
        faultOf("ho", 2);
        faultOf("hous", 4);
        faultOf("housx", 4);
        faultOf("hausx", 2);
        faultOf("haix", 3);
        faultOf("hai", 3);
        faultOf("hidx", 3);
        faultOf("hide 0 0", 4);
        faultOf("house", 5);
        faultOf("houses", 5);
        faultOf("house0", 5);
        faultOf("c", 1);
        faultOf("cx", 1);
        faultOf("cox", 2);
        faultOf("coa", 3);
        faultOf("coas", 3);
        faultOf("cost 0 0", 4);
        faultOf("coat", 4);
        faultOf("costs", 5);
        faultOf("s", 1);
        faultOf("sc", 2);
        faultOf("scratc", 6);
        faultOf("scratcx", 6);
        faultOf("scratch", 7);
        faultOf("hail", 4);
        faultOf("hides", 5);
    }

    private static void faultsOfNumbers() {
        faultOf("house ", 6);
        faultOf("house  0", 6);
        faultOf("house x", 6);
        faultOf("house -1", 6);
        faultOf("house /", 6);
        faultOf("house :", 6);
        faultOf("house 7", 6);
        faultOf("house 7 0", 6);
        faultOf("house 10 0", 6);
        faultOf("house 123 0", 6);
        faultOf("house 0", 7);
        faultOf("house 0x", 7);
        faultOf("house 0;", 7);
        faultOf("house 000 0", 8);
        faultOf("house 0 ", 8);
        faultOf("house 0 ;", 8);
        faultOf("house 0 10", 8);
        faultOf("house 0 0 ", 9);
        faultOf("house 0 0,", 9);
        faultOf("house 0 01 ", 10);
        faultOf("house 0 000", 10);
        faultOf("house 0 0;", 10);
        faultOf("house 0 0;;", 10);
        faultOf("house 0 0; house 0 0", 10);
        faultOf("house 0 0;houze 0 0", 13);
        faultOf("hides 6 0", 6);
        faultOf("hides 0 10", 8);
        faultOf("costs 6 0", 6);
        faultOf("costs 0 100", 10);
        faultOf("hail x", 5);
        faultOf("hail 100", 7);
        faultOf("hail 0 0", 6);
        faultOf("coat 0 0 0 1 0", 5);
        faultOf("scratch 0 0", 8);
    }

    private static void faultsBehindAHouse() {
        faultOf("house 0 0;coat 1 0 0 1 0", 15);
        faultOf("house 0 0;coat 0 8 0 1 0", 17);
        faultOf("house 0 0;coat 0 0 6 1 0", 19);
        faultOf("house 0 0;coat 0 0 0 0 0", 21);
        faultOf("house 0 0;coat 0 0 0 10 0", 21);
        faultOf("house 0 0;coat 0 0 0 1 12", 23);
        faultOf("house 0 0;coat 0 0 0 1", 22);
        faultOf("house 0 0;coat 0 0 0 1 115", 25);
        faultOf("house 0 0;coat 0 0 0 1 0;coat 0 8 0 1 0", 32);
        faultOf("house 0 0;scratch 1 0", 18);
        faultOf("house 0 0;scratch 0 12", 20);
        faultOf("house 0 0;coat 0 0 0 1 5;scratch 0 12", 35);
        faultOf("house 0 0;coat 0 0 0 1 5;scratch 0 13", 35);
        faultOf("house 0 0;scratch 0", 19);
    }

    private static void roomForHouses() {
        PaintedOver x = new PaintedOver();
        for (int n = 0; n < 5; n++) {
            x.house(0, 0);
        }
        faultOn(x, "house 0 0;house 0 0", 10);
        faultOn(x, "house 0 0;house", 10);
        faultOn(x, "house 0 0;housex", 10);
        faultOn(x, "house 0 0;house 9", 10);
        faultOn(x, "house 0 0;hous", 14);
        faultOn(x, "house 0 0;housx", 14);
        DUE.is("nothing was told", x.status(0), 5);
        DUE.is("a sixth", Due.street(x, "house 0 0"), 1);
        DUE.is("told", x.status(0), 6);
        faultOn(x, "house 0 0", 0);
        DUE.is("coats on the sixth", Due.street(x, "coat 5 0 0 1 0"), 1);
    }

    private static void roomForCoats() {
        PaintedOver x = new PaintedOver();
        x.house(0, 0);
        x.house(0, 0);
        for (int n = 0; n < 7; n++) {
            x.coat(0, 0, 0, 1, 0);
        }
        faultOn(x, "coat 0 0 0 1 0;coat 0 0 0 1 0", 20);
        faultOn(x, "coat 0 0 0 1 0;coat 0 8 0 1 0", 20);
        faultOn(x, "coat 0 0 0 1 0;coat 00", 20);
        DUE.is("nothing was told", x.status(1), 7);
        DUE.is("an eighth", Due.street(x, "coat 0 0 0 1 0;coat 1 0 0 1 0"), 2);
        DUE.is("told", x.houseOf(0, 2), 8);
        faultOn(x, "coat 0 0 0 1 0", 5);
    }

    private static void nothingIsLyingThere() {
        faultOf("house 0 0;scratch 0 0", 20);
        faultOf("house 0 0;coat 0 0 0 1 0;scratch 0 0", 35);
        faultOf("house 0 0;coat 0 0 0 1 0;scratch 0 01;scratch 0 1", 48);
        faultOf("house 0 0;coat 0 0 0 1 0;hail 1;scratch 0 11", 42);
        PaintedOver x = new PaintedOver();
        DUE.is("two coats, two scratches",
            Due.street(x, "house 0 0;coat 0 0 0 1 0;coat 0 0 0 1 0;scratch 0 1;scratch 0 1"), 5);
        faultOn(x, "scratch 0 1", 10);
    }

    private static void allOrNothing() {
        PaintedOver x = new PaintedOver();
        x.house(0, 0);
        x.coat(0, 0, 0, 1, 0);
        faultOn(x, "house 1 1;coat 0 0 0 1 0;hides 0 9;costs 0 9;hail 9;x", 52);
        faultOn(x, "scratch 0 5;scratch 0 5", 22);
        DUE.is("houses", x.status(0), 1);
        DUE.is("coats", x.status(1), 1);
        DUE.is("hides", x.colour(0, 0, 3), 3);
        DUE.is("costs", x.colour(0, 1, 1), 1);
        DUE.is("cells", x.coatOf(0, 0, 6), 0xFFE);
        DUE.is("refusals", Due.refusals(x), 2_00L);
    }

    /** Streets without and with a fault by turns. */
    private static void allOrNothingAgain() {
        PaintedOver x = new PaintedOver();
        for (int n = 1; n <= 3; n++) {
            DUE.is("street " + n, Due.street(x, "house 0 0;coat 0 0 0 1 0"), 2);
            faultOn(x, "house 0 0;coat 0 0 0 1 0;hail 9;costs 0 9;x", 42);
            DUE.is("houses " + n, x.status(0), n);
            DUE.is("coats " + n, x.status(1), n);
            DUE.is("skin " + n, x.skin(0), 11 * n);
            DUE.is("costs " + n, x.colour(0, 1, 1), 1);
        }
    }

    private static void kindsBehindAStreet() {
        int[] wet = {10, 14, 10, 28, 10, 10, 10};
        int[] strength = {3, 3, 3, 3, 2, 3, 3};
        int[] behind = {0, 0, 1, 0, 0, 1, 1};
        for (int kind = 0; kind < 7; kind++) {
            PaintedOver x = new PaintedOver();
            x.house(kind, 4);
            x.coat(0, 0, 0, 1, 11);
            for (int n = 0; n < 3; n++) {
                DUE.is("street", Due.street(x, "house 00 0"), 1);
                DUE.is("kind " + kind, x.houseOf(0, 0), kind);
                DUE.is("a of kind " + kind, x.houseOf(0, 1), 4);
                DUE.is("wet of kind " + kind, x.wet(0, 8, 10), wet[kind]);
                DUE.is("strength of kind " + kind, x.coatOf(0, 0, 5), strength[kind]);
                DUE.is("hailed of kind " + kind, x.hailed(0, 4, 4), behind[kind]);
                DUE.is("plain house", x.wet(n + 1, 8, 10), 10);
            }
        }
        for (int kind = 0; kind < 7; kind++) {
            PaintedOver x = new PaintedOver();
            DUE.is("told of kind " + kind, Due.street(x, "house " + kind + " 4;coat 0 0 0 1 11"), 2);
            DUE.is("wet of told kind " + kind, x.wet(0, 8, 10), wet[kind]);
            DUE.is("strength of told kind " + kind, x.coatOf(0, 0, 5), strength[kind]);
            DUE.is("hailed of told kind " + kind, x.hailed(0, 4, 4), behind[kind]);
        }
    }

    private static void toldOverWhatThereIs() {
        PaintedOver x = new PaintedOver();
        x.ask(0, 77);
        x.ask(1, 66);
        x.seed(55);
        x.colour(2, 0, 8);
        x.house(4, 4);
        x.coat(0, 1, 2, 3, 4);
        DUE.is("told over it", Due.street(x, "house 1 1;coat 0 2 3 4 5"), 2);
        DUE.is("limit", x.status(2), 77);
        DUE.is("wide", x.status(3), 66);
        DUE.is("seed", x.status(6), 55);
        DUE.is("hides", x.colour(2, 0, 8), 8);
        DUE.is("house 0", x.houseOf(0, 0), 4);
        DUE.is("coat 0", x.coatOf(0, 0, 0), 1);
        DUE.is("coat 1", x.coatOf(0, 1, 0), 2);
        x.ask(0, 1);
        x.falls();
        x.ask(0, 300);
        DUE.is("a house told anew is bare", Due.street(x, "house 0 0;coat 0 0 0 1 0"), 2);
        DUE.is("its coats", x.houseOf(2, 2), 0);
        DUE.is("a coat behind a fall lies anew", x.coatOf(0, 0, 6), 0xFFE);
    }

    private static void sortsOfRows() {
        for (int sort = 0; sort < 4; sort++) {
            PaintedOver x = new PaintedOver();
            Due.text(x, 0, sort, "house 0 0");
            x.set(0, 0, 'h' + (1L << 8));
            DUE.is("bits above a byte, sort " + sort, x.street(0), sort == 0 ? 1 : -6);
            DUE.is("fault, sort " + sort, x.fault(), sort == 0 ? -1 : 0);
            x.set(0, 0, 'h' + (1L << 16));
            DUE.is("bits above a short, sort " + sort, x.street(0), sort <= 1 ? 1 : -6);
            x.set(0, 0, 'h' + (1L << 32));
            DUE.is("bits above an int, sort " + sort, x.street(0), 1);
            x.set(0, 8, '0' + (1L << 40));
            DUE.is("a digit's bits above an int, sort " + sort, x.street(0), 1);
            DUE.is("no fault, sort " + sort, x.fault(), -1);
        }
        PaintedOver x = new PaintedOver();
        Due.row(x, 0, 2, -1, -1);
        DUE.is("elements below 0", x.street(0), -6);
        DUE.is("their fault", x.fault(), 0);
        Due.row(x, 0, 2, 'h', 'o', 'u', 's', 'e', -1);
        DUE.is("an element below 0 for a blank", x.street(0), -6);
        DUE.is("its fault", x.fault(), 5);
    }

    private static void refusals() {
        PaintedOver x = new PaintedOver();
        x.house(0, 0);
        x.show(1, 0);
        Due.text(x, 2, 0, "hail x");
        DUE.is("street of 8", x.street(8), -1);
        DUE.is("street of -1", x.street(-1), -1);
        DUE.is("street of a house", x.street(1), -2);
        DUE.is("street of nothing", x.street(3), -3);
        DUE.is("no fault of these", x.fault(), -1);
        DUE.is("street with a fault", x.street(2), -6);
        DUE.is("its fault", x.fault(), 5);
        x.street(8);
        x.street(1);
        x.street(3);
        DUE.is("the latest that came to a row", x.fault(), 5);
        DUE.is("refusals", Due.refusals(x), 3_02_02_00_00_01_00L);
        DUE.is("a street without", Due.street(x, "hail 0"), 1);
        DUE.is("no fault", x.fault(), -1);
    }
}
