/** The document's Details: each sentence has a test here that bears its name. */
public final class DetailsTest {
    private static final Due DUE = new Due("DetailsTest");

    public static void main(String[] args) {
        coatsThatAreGoneStayGone();
        oneThatComesOnTopLiesThere();
        aCellarIsInRowTwoTwiceAllOfDamp();
        bareIsTwiceWhatHardIsElse();
        razorLooksAtWhatLiesAbove();
        paintHasStrengthForAllCellsButTheGap();
        aGapOutsideIsWrong();
        bestGapLooksAtWhoIsSeenNow();
        cellsWithoutCoatsCount();
        aCoatHasTheYearAsItIsThen();
        ordersAreZeroWithoutAny();
        hailCountsEachCell();
        skinsThatFallByFallsCountToo();
        saysOfSouthIsOfTheHighestCoat();
        limedGoesByItsOwnKind();
        numbersOfATextMayBeginWithZero();
        longsCountByTheirLowestBits();
        roomIsAskedWhenTheLettersStandWhole();
        anIBelowNoneIsAhead();
        anITooGreatAndNoOrderAreBehind();
        DUE.end();
    }

    private static PaintedOver houseOf(int kind, int a) {
        PaintedOver x = new PaintedOver();
        x.house(kind, a);
        return x;
    }

    private static void coatsThatAreGoneStayGone() {
        PaintedOver x = houseOf(0, 0);
        x.coat(0, 0, 0, 3, 0);
        x.hail(3);
        DUE.is("gone by hail", x.coatOf(0, 0, 6), 0);
        x.coat(0, 1, 0, 2, 0);
        DUE.is("gone still", x.coatOf(0, 0, 6), 0);
        x.hail(2);
        x.image();
        x.restore();
        Due.street(x, "hail 0");
        DUE.is("both are gone still", x.skin(0), 0);
        DUE.is("both are coats still", x.houseOf(0, 2), 2);
    }

    private static void oneThatComesOnTopLiesThere() {
        PaintedOver x = houseOf(0, 0);
        x.coat(0, 0, 0, 1, 0);
        x.coat(0, 0, 0, 1, 0);
        x.hail(99);
        DUE.is("place on top", x.coat(0, 1, 0, 2, 11), 2);
        DUE.is("lies in all but its gap", x.coatOf(0, 2, 6), 0x7FF);
        DUE.is("is seen", x.seen(0, 5, 0), 2);
        x.hail(99);
        x.seed(3);
        x.years(1);
        DUE.is("one of a year lies there too", x.coatOf(0, 3, 6), 0xFFB);
    }

    private static void aCellarIsInRowTwoTwiceAllOfDamp() {
        PaintedOver damp = houseOf(1, 9);
        PaintedOver cellar = houseOf(3, 9);
        for (int d = 0; d <= 99; d++) {
            DUE.is("row 1 at " + d, cellar.wet(0, 7, d), damp.wet(0, 7, d));
            DUE.is("row 2 at " + d, cellar.wet(0, 8, d), 2 * damp.wet(0, 8, d));
        }
    }

    private static void bareIsTwiceWhatHardIsElse() {
        PaintedOver limed = houseOf(2, 9);
        PaintedOver bare = houseOf(6, 9);
        for (int n = 0; n < 8; n++) {
            limed.coat(0, 0, 0, 1, 11);
            bare.coat(0, 0, 0, 1, 11);
        }
        int[] limedLeft = {8, 8, 7, 6, 5, 4, 3, 2, 1, 0, 0};
        int[] bareLeft = {8, 8, 6, 4, 2, 0, 0, 0, 0, 0, 0};
        for (int n = 0; n < limedLeft.length; n++) {
            int h = n == 0 ? 0 : 8 + n;
            DUE.is("limed by " + h, limed.hailed(0, 0, h), (1 << limedLeft[n]) - 1);
            DUE.is("bare by " + h, bare.hailed(0, 0, h), (1 << bareLeft[n]) - 1);
        }
    }

    private static void razorLooksAtWhatLiesAbove() {
        PaintedOver x = houseOf(0, 0);
        x.coat(0, 0, 0, 9, 11);
        x.coat(0, 0, 0, 1, 11);
        x.coat(0, 0, 0, 4, 6);
        x.coat(0, 0, 0, 2, 6);
        DUE.is("for the second: what is above it alone", x.razor(0, 1, 1), 0);
        DUE.is("in the gap of those above", x.razor(0, 1, 0), 6);
        x.scratch(0, 6);
        DUE.is("it doesn't lie there now", x.razor(0, 1, 0), 0);
        DUE.is("both above it", x.razor(0, 1, 1), 6);
        x.scratch(0, 5);
        DUE.is("what is gone above doesn't count", x.razor(0, 1, 1), 4);
        DUE.is("there", x.razor(0, 1, 0), 5);
    }

    private static void paintHasStrengthForAllCellsButTheGap() {
        for (int gap = 0; gap < 12; gap++) {
            PaintedOver x = houseOf(3, 0);
            x.colour(0, 0, 9);
            DUE.is("in row 2 of a cellar", x.paint(0, gap, 4), 1);
            DUE.is("one wetter", x.paint(0, gap, 5), 2);
            x.coat(0, 0, 0, 9, gap);
            DUE.is("a dry one beneath is hidden alike", x.paint(0, gap, 5), 2);
        }
    }

    private static void aGapOutsideIsWrong() {
        PaintedOver x = houseOf(0, 0);
        int[] outside = {Integer.MIN_VALUE, -1, 12, Integer.MAX_VALUE};
        for (int gap : outside) {
            DUE.is("paint with gap " + gap, x.paint(0, gap, 0), -16);
            DUE.is("coat with gap " + gap, x.coat(0, 0, 0, 1, gap), -6);
        }
        DUE.is("refusals", Due.refusals(x), 8_00L);
    }

    private static void bestGapLooksAtWhoIsSeenNow() {
        PaintedOver x = houseOf(0, 0);
        x.coat(0, 1, 0, 1, 0);
        x.coat(0, 2, 0, 9, 7);
        DUE.is("the one beneath is seen in the gap alone", x.gap(0, 1), 0);
        DUE.is("the upper one isn't seen there", x.gap(0, 2), 7);
        x.scratch(0, 3);
        DUE.is("nor where it is gone", x.gap(0, 2), 3);
        DUE.is("there the other is seen", x.gap(0, 1), 0);
        x.scratch(0, 3);
        DUE.is("nor where all is gone", x.gap(0, 1), 3);
    }

    private static void cellsWithoutCoatsCount() {
        PaintedOver x = houseOf(0, 0);
        DUE.is("no coats at all", x.gap(0, 0), 0);
        x.coat(0, 0, 0, 1, 11);
        DUE.is("the one cell without", x.gap(0, 0), 11);
        DUE.is("for another tenant too", x.gap(0, 5), 11);
    }

    private static void aCoatHasTheYearAsItIsThen() {
        PaintedOver x = houseOf(0, 0);
        x.years(1);
        DUE.is("painted in year 0", x.coatOf(0, 0, 4), 0);
        DUE.is("the year is 1", x.status(4), 1);
        x.coat(0, 0, 0, 1, 0);
        DUE.is("painted in year 1", x.coatOf(0, 1, 4), 1);
        Due.street(x, "coat 0 0 0 1 0");
        DUE.is("by a text, too", x.coatOf(0, 2, 4), 1);
        x.years(1);
        DUE.is("painted in year 1, by years", x.coatOf(0, 3, 4), 1);
    }

    private static void ordersAreZeroWithoutAny() {
        PaintedOver x = new PaintedOver();
        Due.row(x, 0, 0, 10, 1);
        DUE.is("0", x.orders(0, 2, -1), 0);
        DUE.is("no refusal", Due.refusals(x), 0);
        DUE.is("1 by the first", x.orders(0, 1, -1), 1);
        DUE.is("1 by none", x.orders(0, 0, -1), 1);
    }

    private static void hailCountsEachCell() {
        PaintedOver x = houseOf(0, 0);
        x.house(0, 0);
        x.coat(0, 0, 0, 1, 0);
        x.coat(0, 0, 0, 1, 1);
        x.coat(1, 0, 0, 2, 1);
        x.scratch(0, 5);
        DUE.is("two of one cell are two", x.hail(2), 21 + 11);
    }

    private static void skinsThatFallByFallsCountToo() {
        PaintedOver x = houseOf(0, 0);
        x.house(0, 0);
        x.ask(0, 1);
        x.coat(0, 0, 0, 1, 0);
        x.coat(1, 0, 0, 1, 0);
        DUE.is("two fall", x.falls(), 3);
        DUE.is("they count", x.status(5), 2);
        x.coat(0, 0, 0, 9, 0);
        int fell = x.years(1);
        DUE.is("those of a year, too", x.status(5), 2 + fell);
        DUE.is("that fell in it", fell > 0 ? 1 : 0, 1);
    }

    private static void saysOfSouthIsOfTheHighestCoat() {
        PaintedOver x = houseOf(4, 9);
        x.show(0, 0);
        DUE.is("no coat", x.says(0, 4), 0);
        x.coat(0, 0, 0, 9, 0);
        x.coat(0, 0, 0, 2, 0);
        DUE.is("the highest", x.says(0, 4), 4);
        x.hail(2);
        DUE.is("though it lies nowhere", x.says(0, 4), 4);
        x.hail(99);
        DUE.is("though none lies", x.says(0, 4), 4);
        x.ask(0, 1);
        x.coat(0, 0, 0, 9, 0);
        x.falls();
        DUE.is("no coat behind a fall", x.says(0, 4), 0);
    }

    private static void limedGoesByItsOwnKind() {
        for (int a = 0; a <= 9; a++) {
            PaintedOver x = houseOf(2, a);
            x.house(5, a);
            x.house(6, a);
            for (int house = 0; house < 3; house++) {
                x.show(house, house);
            }
            DUE.is("a LIMED house of " + a, x.says(0, 2), 10 - a);
            DUE.is("a TILED house of " + a + ", CELL 0 being in row 0", x.says(1, 2), 0);
            DUE.is("a BARE house of " + a, x.says(2, 2), 2 * (10 - a));
            DUE.is("TILED as TILED", x.says(1, 5), 10 - a);
            DUE.is("BARE as BARE", x.says(2, 6), a);
        }
    }

    private static void numbersOfATextMayBeginWithZero() {
        PaintedOver x = new PaintedOver();
        DUE.is("items", Due.street(x, "house 03 00;coat 00 07 05 09 00;hides 05 09;costs 05 09;hail 08;scratch 00 09"), 6);
        DUE.is("kind", x.houseOf(0, 0), 3);
        DUE.is("tenant", x.coatOf(0, 0, 0), 7);
        DUE.is("cells", x.coatOf(0, 0, 6), 0xDFE);
        DUE.is("hides", x.colour(5, 0, 0), 9);
        DUE.is("costs", x.colour(5, 1, 0), 9);
    }

    private static void longsCountByTheirLowestBits() {
        long more = 5L << 32;
        PaintedOver x = new PaintedOver();
        Due.row(x, 0, 3, 10 + more, 21 - more);
        DUE.is("orders", x.orders(0, 2, 2), 2);
        DUE.is("forged", x.forged(0, 2), -1);
        Due.text(x, 1, 3, "house 1 1");
        for (int i = 0; i < 9; i++) {
            x.set(1, i, x.element(1, i) - more);
        }
        DUE.is("street", x.street(1), 1);
        DUE.is("the elements are whole", x.element(0, 0), 10 + more);
    }

    private static void roomIsAskedWhenTheLettersStandWhole() {
        PaintedOver x = new PaintedOver();
        for (int n = 0; n < 6; n++) {
            x.house(0, 0);
        }
        String[] texts = {"house", "house 0 0", "housey", "hous", "hous3", "house;", "hou", "h"};
        int[] faults = {0, 0, 0, 4, 4, 0, 3, 1};
        for (int n = 0; n < texts.length; n++) {
            DUE.is("street '" + texts[n] + "'", Due.street(x, texts[n]), -6);
            DUE.is("fault of '" + texts[n] + "'", x.fault(), faults[n]);
        }
    }

    private static void anIBelowNoneIsAhead() {
        PaintedOver x = new PaintedOver();
        Due.row(x, 0, 0, 99);
        DUE.is("below NONE", x.orders(0, 1, -2), -5);
        DUE.is("NONE", x.orders(0, 1, -1), -6);
        DUE.is("refusals", Due.refusals(x), 1_01_00L);
    }

    private static void anITooGreatAndNoOrderAreBehind() {
        PaintedOver x = new PaintedOver();
        Due.row(x, 0, 0, 10, 99, 1);
        DUE.is("too great, and elements that may not be", x.orders(0, 2, 2), -6);
        DUE.is("too great", x.orders(0, 1, 2), -5);
        DUE.is("not too great", x.orders(0, 1, 1), 1);
        x.set(0, 1, 1);
        DUE.is("no order", x.orders(0, 2, 0), -5);
        DUE.is("no order, and elements that may not be", x.orders(0, 3, 0), -5);
        x.set(0, 2, 99);
        DUE.is("elements that may not be, ahead of no order", x.orders(0, 3, 0), -6);
    }
}
