/** The sentences of the terms' parts 1 and 2 at their edges: what lies, is seen, is wet, is hailed, is deep, falls. */
public final class SeenEdgesTest {
    private static final Due DUE = new Due("SeenEdgesTest");
    private static final int[] ROW_OF = {0, 0, 0, 0, 1, 1, 1, 1, 2, 2, 2, 2};

    public static void main(String[] args) {
        coloursAtFirst();
        leastAndGreatestOfColours();
        leastAndGreatestOfCoats();
        leastAndGreatestOfHouses();
        whatLiesInACell();
        whatIsGoneStaysGone();
        strengths();
        strengthsOnTheSouth();
        wetOfAllCells();
        seenAtJustItsStrength();
        seenDryWithoutStrength();
        hardOfAllCells();
        thickIsHardAtMost();
        hardIsLessByEach();
        gapsInHail();
        deepAndSkin();
        fallsAboveTheLimit();
        saysOfAllKinds();
        DUE.end();
    }

    /** A house of a kind, as house 0. */
    private static PaintedOver houseOf(int kind, int a) {
        PaintedOver x = new PaintedOver();
        x.house(kind, a);
        return x;
    }

    private static void coloursAtFirst() {
        PaintedOver x = houseOf(0, 0);
        for (int c = 0; c < 6; c++) {
            x.coat(0, 0, c, 1, c);
            DUE.is("HIDES at first, by strength, of " + c, x.coatOf(0, c, 5), 3);
            DUE.is("COSTS at first, by price", x.price(0, 0), c == 0 ? 1 : 2);
        }
        for (int c = 0; c < 6; c++) {
            DUE.is("HIDES of " + c, x.colour(c, 0, 0), 3);
            DUE.is("COSTS of " + c, x.colour(c, 1, 0), 1);
        }
    }

    private static void leastAndGreatestOfColours() {
        for (int c = 0; c < 6; c++) {
            PaintedOver x = houseOf(0, 0);
            x.coat(0, 0, c, 9, 0);
            DUE.is("HIDES 9", x.colour(c, 0, 9), 3);
            DUE.is("strength by it", x.coatOf(0, 0, 5), 81);
            DUE.is("HIDES 10", x.colour(c, 0, 10), -6);
            DUE.is("strength unchanged", x.coatOf(0, 0, 5), 81);
            DUE.is("HIDES 0", x.colour(c, 0, 0), 9);
            DUE.is("strength by it", x.coatOf(0, 0, 5), 0);
            DUE.is("HIDES -1", x.colour(c, 0, -1), -6);
            DUE.is("COSTS 99", x.colour(c, 1, 99), 1);
            DUE.is("price by it", x.price(0, 0), 99);
            DUE.is("COSTS 100", x.colour(c, 1, 100), -6);
            DUE.is("price unchanged", x.price(0, 0), 99);
            DUE.is("COSTS 0", x.colour(c, 1, 0), 99);
            DUE.is("price by it", x.price(0, 0), 0);
            DUE.is("COSTS -1", x.colour(c, 1, -1), -6);
            DUE.is("HIDES may be 9, COSTS more", x.colour(c, 1, 10), 0);
            for (int other = 0; other < 6; other++) {
                if (other != c) {
                    DUE.is("HIDES of another", x.colour(other, 0, 3), 3);
                    DUE.is("COSTS of another", x.colour(other, 1, 1), 1);
                }
            }
            DUE.is("refusals", Due.refusals(x), 4_00L);
        }
    }

    private static void leastAndGreatestOfCoats() {
        PaintedOver x = houseOf(0, 0);
        int[][] least = {{0, 0, 1, 0}, {7, 5, 9, 11}, {0, 5, 1, 11}, {7, 0, 9, 0}};
        for (int n = 0; n < least.length; n++) {
            DUE.is("place", x.coat(0, least[n][0], least[n][1], least[n][2], least[n][3]), n);
            for (int what = 0; what < 4; what++) {
                DUE.is("coat's " + what, x.coatOf(0, n, what), least[n][what]);
            }
        }
        int[][] none = {{-1, 0, 1, 0}, {8, 0, 1, 0}, {0, -1, 1, 0}, {0, 6, 1, 0}};
        for (int[] one : none) {
            DUE.is("nobody", x.coat(0, one[0], one[1], one[2], one[3]), -1);
        }
        int[][] wrong = {{0, 0, 0, 0}, {0, 0, 10, 0}, {0, 0, 1, -1}, {0, 0, 1, 12}};
        for (int[] one : wrong) {
            DUE.is("wrong", x.coat(0, one[0], one[1], one[2], one[3]), -6);
        }
        DUE.is("coats", x.houseOf(0, 2), 4);
        DUE.is("refusals", Due.refusals(x), 4_00_00_00_00_04_00L);
    }

    private static void leastAndGreatestOfHouses() {
        PaintedOver x = new PaintedOver();
        DUE.is("kind -1", x.house(-1, 0), -1);
        DUE.is("kind 7", x.house(7, 0), -1);
        DUE.is("a -1", x.house(6, -1), -6);
        DUE.is("a 10", x.house(6, 10), -6);
        DUE.is("kind 0, a 0", x.house(0, 0), 0);
        DUE.is("kind 6, a 9", x.house(6, 9), 1);
        DUE.is("kind 0", x.houseOf(0, 0), 0);
        DUE.is("a 0", x.houseOf(0, 1), 0);
        DUE.is("kind 6", x.houseOf(1, 0), 6);
        DUE.is("a 9", x.houseOf(1, 1), 9);
        DUE.is("houses", x.status(0), 2);
        DUE.is("refusals", Due.refusals(x), 2_00_00_00_00_02_00L);
    }

    /** All coats of the house that aren't gone there, but those whose GAP it is. */
    private static void whatLiesInACell() {
        for (int gap = 0; gap < 12; gap++) {
            PaintedOver x = houseOf(0, 0);
            x.coat(0, 0, 0, 1, gap);
            x.coat(0, 1, 0, 2, (gap + 1) % 12);
            DUE.is("the lowest lies in all but its gap", x.coatOf(0, 0, 6), 0xFFF & ~(1 << gap));
            for (int cell = 0; cell < 12; cell++) {
                int lying = 3 & ~(cell == gap ? 1 : 0) & ~(cell == (gap + 1) % 12 ? 2 : 0);
                DUE.is("lies in " + cell, x.hailed(0, cell, 0), lying);
                DUE.is("deep in " + cell, x.deep(0, cell), lying);
                DUE.is("seen in " + cell, x.seen(0, cell, 0), lying > 1 ? 1 : 0);
                DUE.is("scratched from " + cell, x.scratch(0, cell), lying > 1 ? 1 : 0);
                DUE.is("beneath it in " + cell, x.scratch(0, cell), lying == 3 ? 0 : -6);
            }
        }
    }

    private static void whatIsGoneStaysGone() {
        for (int cell = 0; cell < 12; cell++) {
            PaintedOver x = houseOf(0, 0);
            x.coat(0, 0, 0, 1, (cell + 1) % 12);
            x.coat(0, 1, 0, 2, (cell + 2) % 12);
            x.scratch(0, cell);
            x.coat(0, 2, 0, 3, (cell + 3) % 12);
            DUE.is("one on top lies there", x.hailed(0, cell, 0), 5);
            x.scratch(0, cell);
            DUE.is("what was gone is gone still", x.hailed(0, cell, 0), 1);
            x.coat(0, 3, 0, 4, cell);
            DUE.is("one whose gap it is doesn't lie there", x.hailed(0, cell, 0), 1);
            DUE.is("the lowest is scratched", x.scratch(0, cell), 0);
            DUE.is("nothing lies there", x.scratch(0, cell), -6);
            x.coat(0, 4, 0, 5, (cell + 4) % 12);
            DUE.is("one on top of nothing", x.hailed(0, cell, 0), 16);
            DUE.is("elsewhere all are", x.hailed(0, (cell + 6) % 12, 0), 31);
        }
    }

    private static void strengths() {
        for (int hides = 0; hides <= 9; hides++) {
            for (int kind = 0; kind < 7; kind++) {
                PaintedOver x = houseOf(kind, 5);
                x.colour(4, 0, hides);
                x.coat(0, 0, 4, 1, 0);
                x.coat(0, 0, 4, 9, 0);
                int counted = kind == 4 ? Math.max(0, hides - 1) : hides;
                DUE.is("strength of " + hides + " times 1 on kind " + kind, x.coatOf(0, 0, 5), counted);
                DUE.is("strength of " + hides + " times 9 on kind " + kind, x.coatOf(0, 1, 5), 9 * counted);
            }
        }
    }

    /** "On a SOUTH house the COLOUR counts 1 less than it HIDES (0 at least)". */
    private static void strengthsOnTheSouth() {
        PaintedOver x = houseOf(4, 0);
        x.colour(0, 0, 1);
        x.colour(1, 0, 0);
        x.colour(2, 0, 2);
        x.coat(0, 0, 2, 9, 0);
        x.coat(0, 0, 1, 9, 1);
        x.coat(0, 0, 0, 9, 2);
        DUE.is("1 hides 0", x.coatOf(0, 2, 5), 0);
        DUE.is("0 hides 0, not less", x.coatOf(0, 1, 5), 0);
        DUE.is("seen dry", x.seen(0, 5, 0), 2);
        DUE.is("in the gap the other", x.seen(0, 2, 0), 1);
        DUE.is("not at 1", x.seen(0, 5, 1), 0);
        DUE.is("2 hides 1, at 9", x.seen(0, 5, 9), 0);
        DUE.is("2 hides 1, at 10", x.seen(0, 5, 10), -1);
    }

    /** "DAMP (and CELLAR): a more, if d is above 0; CELLAR: in row 2 twice all that." */
    private static void wetOfAllCells() {
        int[] weathers = {0, 1, 2, 98, 99};
        for (int kind = 0; kind < 7; kind++) {
            for (int a = 0; a <= 9; a += 3) {
                PaintedOver x = houseOf(kind, a);
                for (int cell = 0; cell < 12; cell++) {
                    for (int d : weathers) {
                        int more = (kind == 1 || kind == 3) && d > 0 ? a : 0;
                        int times = kind == 3 && ROW_OF[cell] == 2 ? 2 : 1;
                        String where = "wet of " + cell + " at " + d + ", kind " + kind + ", a " + a;
                        DUE.is(where, x.wet(0, cell, d), times * (d + more));
                    }
                    DUE.is("d -1", x.wet(0, cell, -1), -6);
                    DUE.is("d 100", x.wet(0, cell, 100), -6);
                }
                DUE.is("refusals", Due.refusals(x), 24_00L);
            }
        }
        PaintedOver cellar = houseOf(3, 9);
        DUE.is("the wettest there is", cellar.wet(0, 11, 99), 216);
        DUE.is("above it", cellar.wet(0, 7, 99), 108);
    }

    /** "The uppermost COAT whose STRENGTH is WET at least; NONE: the wall." */
    private static void seenAtJustItsStrength() {
        for (int cell = 0; cell < 12; cell++) {
            int other = (cell + 5) % 12;
            PaintedOver x = houseOf(0, 9);
            x.colour(0, 0, 9);
            x.colour(1, 0, 5);
            x.coat(0, 0, 0, 9, other);
            x.coat(0, 1, 1, 4, other);
            DUE.is("at its strength", x.seen(0, cell, 20), 1);
            DUE.is("one above it", x.seen(0, cell, 21), 0);
            DUE.is("at that of the one beneath", x.seen(0, cell, 81), 0);
            DUE.is("above all", x.seen(0, cell, 82), -1);
            DUE.is("99", x.seen(0, cell, 99), -1);
            DUE.is("in both gaps the wall, dry", x.seen(0, other, 0), -1);
        }
        PaintedOver damp = houseOf(1, 9);
        damp.coat(0, 0, 0, 4, 11);
        DUE.is("damp of 9 at 3", damp.seen(0, 0, 3), 0);
        DUE.is("damp of 9 at 4", damp.seen(0, 0, 4), -1);
        PaintedOver cellar = houseOf(3, 1);
        cellar.coat(0, 0, 0, 4, 0);
        DUE.is("cellar of 1, row 2, at 5", cellar.seen(0, 8, 5), 0);
        DUE.is("cellar of 1, row 2, at 6", cellar.seen(0, 8, 6), -1);
        DUE.is("cellar of 1, row 1, at 11", cellar.seen(0, 7, 11), 0);
        DUE.is("cellar of 1, row 1, at 12", cellar.seen(0, 7, 12), -1);
    }

    private static void seenDryWithoutStrength() {
        for (int kind = 0; kind < 7; kind++) {
            PaintedOver x = houseOf(kind, 9);
            x.colour(0, 0, 0);
            x.coat(0, 0, 0, 9, 3);
            for (int cell = 0; cell < 12; cell++) {
                DUE.is("0 is seen dry", x.seen(0, cell, 0), cell == 3 ? -1 : 0);
                DUE.is("0 isn't seen at 1", x.seen(0, cell, 1), -1);
            }
        }
    }

    private static int hard(int kind, int a, int row, int h) {
        int limed = Math.max(0, h - a);
        switch (kind) {
            case 2:
                return limed;
            case 5:
                return row == 0 ? 0 : limed;
            case 6:
                return 2 * limed;
            default:
                return h;
        }
    }

    /** By which hail a coat goes tells how HARD it is: coats 1 thick tell by their number, up to 8. */
    private static void hardOfAllCells() {
        int[] hails = {0, 1, 2, 3, 4, 5, 6, 7, 8, 9, 10, 98, 99};
        for (int kind = 0; kind < 7; kind++) {
            int[] as = {0, 1, 4, 9};
            for (int a : as) {
                PaintedOver x = houseOf(kind, a);
                for (int n = 0; n < 8; n++) {
                    x.coat(0, 0, 0, 1, 11);
                }
                for (int cell = 0; cell < 11; cell++) {
                    for (int h : hails) {
                        int left = 8 - Math.min(8, hard(kind, a, ROW_OF[cell], h));
                        String where = "hailed by " + h + " in " + cell + ", kind " + kind + ", a " + a;
                        DUE.is(where, x.hailed(0, cell, h), (1 << left) - 1);
                    }
                    DUE.is("h -1", x.hailed(0, cell, -1), -6);
                    DUE.is("h 100", x.hailed(0, cell, 100), -6);
                }
            }
        }
    }

    /** "The uppermost one's THICK is HARD at most". */
    private static void thickIsHardAtMost() {
        for (int thick = 1; thick <= 9; thick++) {
            PaintedOver x = houseOf(0, 9);
            x.coat(0, 0, 0, thick, 0);
            DUE.is("one less than it is thick", x.hailed(0, 4, thick - 1), 1);
            DUE.is("as much as it is thick", x.hailed(0, 4, thick), 0);
            DUE.is("in truth, one less", x.hail(thick - 1), 0);
            DUE.is("in truth, as much", x.hail(thick), 11);
            DUE.is("nothing is left", x.hail(99), 0);
        }
    }

    /** "It goes, and HARD is less by its THICK": a thinner one beneath a thicker one doesn't go ahead of it. */
    private static void hardIsLessByEach() {
        PaintedOver x = houseOf(0, 0);
        x.coat(0, 0, 0, 1, 11);
        x.coat(0, 0, 0, 5, 11);
        x.coat(0, 0, 0, 2, 11);
        int[] left = {7, 7, 3, 3, 3, 3, 3, 1, 0, 0};
        for (int h = 0; h < left.length; h++) {
            DUE.is("left by " + h, x.hailed(0, 0, h), left[h]);
        }
        DUE.is("in truth by 6: the uppermost alone", x.hail(6), 11);
        DUE.is("in truth by 4: none", x.hail(4), 0);
        DUE.is("in truth by 6: two", x.hail(6), 22);
    }

    private static void gapsInHail() {
        PaintedOver x = houseOf(0, 0);
        x.coat(0, 0, 0, 1, 0);
        x.coat(0, 0, 0, 9, 1);
        x.coat(0, 0, 0, 1, 2);
        DUE.is("in cell 0", x.hailed(0, 0, 9), 2);
        DUE.is("in cell 1: the thick one's gap", x.hailed(0, 1, 2), 0);
        DUE.is("in cell 2: 8", x.hailed(0, 2, 8), 3);
        DUE.is("in cell 2: 9", x.hailed(0, 2, 9), 1);
        DUE.is("in cell 3: 10", x.hailed(0, 3, 10), 1);
        DUE.is("in truth", x.hail(2), 10 + 2);
        DUE.is("the lowest's cells", x.coatOf(0, 0, 6), 0xFFC);
        DUE.is("the thick one's cells", x.coatOf(0, 1, 6), 0xFFD);
        DUE.is("the uppermost's cells", x.coatOf(0, 2, 6), 0);
    }

    private static void deepAndSkin() {
        for (int cell = 0; cell < 12; cell++) {
            PaintedOver x = houseOf(0, 0);
            x.coat(0, 0, 0, 9, cell);
            x.coat(0, 0, 0, 1, (cell + 1) % 12);
            DUE.is("deep in a gap", x.deep(0, cell), 1);
            DUE.is("deep in the other's", x.deep(0, (cell + 1) % 12), 9);
            DUE.is("deep elsewhere", x.deep(0, (cell + 2) % 12), 10);
            DUE.is("skin", x.skin(0), 110);
            DUE.is("SKIN as the house tells it", x.houseOf(0, 3), 110);
            x.scratch(0, (cell + 2) % 12);
            DUE.is("skin behind a scratch", x.skin(0), 109);
        }
    }

    /** "It FALLS, if that is above LIMIT (1 to 999; 300 at first)". */
    private static void fallsAboveTheLimit() {
        PaintedOver first = houseOf(0, 0);
        for (int n = 0; n < 3; n++) {
            first.coat(0, 0, 0, 9, 0);
        }
        DUE.is("skin", first.skin(0), 297);
        DUE.is("297 stays at first", first.falls(), 0);
        first.coat(0, 0, 0, 1, 1);
        for (int cell = 2; cell < 10; cell++) {
            first.scratch(0, cell);
        }
        DUE.is("300", first.skin(0), 300);
        DUE.is("300 stays at first", first.falls(), 0);
        PaintedOver more = houseOf(0, 0);
        for (int n = 0; n < 3; n++) {
            more.coat(0, 0, 0, 9, 0);
        }
        more.coat(0, 0, 0, 1, 1);
        for (int cell = 2; cell < 9; cell++) {
            more.scratch(0, cell);
        }
        DUE.is("301", more.skin(0), 301);
        DUE.is("301 falls at first", more.falls(), 1);
        PaintedOver x = houseOf(0, 0);
        x.coat(0, 0, 0, 1, 0);
        int[] limits = {999, 300, 12, 11};
        for (int limit : limits) {
            x.ask(0, limit);
            DUE.is("11 stays by " + limit, x.falls(), 0);
        }
        x.ask(0, 10);
        DUE.is("11 falls by 10", x.falls(), 1);
        PaintedOver one = houseOf(0, 0);
        one.coat(0, 0, 0, 1, 0);
        for (int cell = 1; cell < 11; cell++) {
            one.scratch(0, cell);
        }
        one.ask(0, 1);
        DUE.is("1 stays by 1", one.falls(), 0);
        one.coat(0, 0, 0, 1, 0);
        DUE.is("12 falls by 1", one.falls(), 1);
        DUE.is("all coats are no more", one.houseOf(0, 2), 0);
    }

    /** What a house says, taken for its own kind and for those above it; LIMED goes by its own kind. */
    private static void saysOfAllKinds() {
        int[] as = {0, 1, 9};
        for (int kind = 0; kind < 7; kind++) {
            for (int a : as) {
                PaintedOver x = houseOf(kind, a);
                x.colour(0, 0, 5);
                x.coat(0, 0, 0, 3, 0);
                x.show(0, 0);
                String who = ", kind " + kind + ", a " + a;
                DUE.is("HOUSE" + who, x.says(0, 0), 33);
                DUE.is("DAMP" + who, x.says(0, 1), kind == 1 || kind == 3 ? 10 + a : -2);
                DUE.is("LIMED" + who, x.says(0, 2), kind == 2 || kind > 4 ? hard(kind, a, 0, 10) : -2);
                DUE.is("CELLAR" + who, x.says(0, 3), kind == 3 ? 2 * (10 + a) : -2);
                DUE.is("SOUTH" + who, x.says(0, 4), kind == 4 ? 12 : -2);
                DUE.is("TILED" + who, x.says(0, 5), kind == 5 ? 10 - a : -2);
                DUE.is("BARE" + who, x.says(0, 6), kind == 6 ? a : -2);
                DUE.is("kind -1" + who, x.says(0, -1), -1);
                DUE.is("kind 7" + who, x.says(0, 7), -1);
            }
        }
    }
}
