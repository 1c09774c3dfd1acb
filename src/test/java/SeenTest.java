/** Promises 17 to 25: what is seen, wet, deep, hailed, laid bare by razors, hidden, shown. */
public final class SeenTest {
    private static final Due DUE = new Due("SeenTest");

    public static void main(String[] args) {
        seen();
        seenByKinds();
        wet();
        deepAndSkin();
        hailed();
        hailedByKinds();
        razors();
        razorBehindScratches();
        hiddenAndShown();
        seenInOneCellAlone();
        firstWet();
        refusals();
        DUE.end();
    }

    private static void seenIn(PaintedOver x, int d, int... coats) {
        for (int cell = 0; cell < coats.length; cell++) {
            DUE.is("seen in " + cell + " at " + d, x.seen(0, cell, d), coats[cell]);
        }
    }

    private static void seen() {
        PaintedOver x = Due.threeCoats(0, 0);
        seenIn(x, 0, 2, 2, 1, 2, 2, 2, 2, 2, 2, 2, 2, 2);
        seenIn(x, 1, 1, 0, 1, 1, 1, 1, 1, 1, 1, 1, 1, 1);
        seenIn(x, 10, 1, 0, 1, 1);
        seenIn(x, 11, -1, 0, 0, 0);
        seenIn(x, 18, -1, 0, 0, 0);
        seenIn(x, 19, -1, -1, -1, -1);
        seenIn(x, 99, -1, -1, -1, -1);
        x.scratch(0, 3);
        DUE.is("what is gone isn't seen", x.seen(0, 3, 0), 1);
        x.coat(0, 5, 5, 1, 4);
        DUE.is("what comes on top is seen", x.seen(0, 3, 0), 3);
        DUE.is("not in its gap", x.seen(0, 4, 0), 2);
        DUE.is("refusals", Due.refusals(x), 0);
    }

    private static void seenByKinds() {
        PaintedOver damp = Due.threeCoats(1, 8);
        DUE.is("damp, dry", damp.seen(0, 0, 0), 2);
        DUE.is("damp 2", damp.seen(0, 0, 2), 1);
        DUE.is("damp 3", damp.seen(0, 0, 3), -1);
        PaintedOver cellar = Due.threeCoats(3, 3);
        DUE.is("cellar, row 1, 7", cellar.seen(0, 7, 7), 1);
        DUE.is("cellar, row 1, 8", cellar.seen(0, 7, 8), 0);
        DUE.is("cellar, row 2, 2", cellar.seen(0, 8, 2), 1);
        DUE.is("cellar, row 2, 3", cellar.seen(0, 8, 3), 0);
        DUE.is("cellar, row 2, 6", cellar.seen(0, 11, 6), 0);
        DUE.is("cellar, row 2, 7", cellar.seen(0, 11, 7), -1);
        PaintedOver south = Due.threeCoats(4, 9);
        DUE.is("south, dry", south.seen(0, 3, 0), 2);
        DUE.is("south 5", south.seen(0, 3, 5), 1);
        DUE.is("south 6", south.seen(0, 3, 6), 0);
        DUE.is("south 16", south.seen(0, 3, 16), 0);
        DUE.is("south 17", south.seen(0, 3, 17), -1);
        PaintedOver bare = Due.threeCoats(6, 9);
        DUE.is("bare 10", bare.seen(0, 3, 10), 1);
        DUE.is("bare 18", bare.seen(0, 3, 18), 0);
    }

    private static void wet() {
        int[] rowOne = {10, 14, 10, 14, 10, 10, 10};
        int[] rowTwo = {10, 14, 10, 28, 10, 10, 10};
        for (int kind = 0; kind < 7; kind++) {
            PaintedOver x = new PaintedOver();
            x.house(kind, 4);
            DUE.is("row 0, kind " + kind, x.wet(0, 0, 10), rowOne[kind]);
            DUE.is("row 1, kind " + kind, x.wet(0, 7, 10), rowOne[kind]);
            DUE.is("row 2, kind " + kind, x.wet(0, 8, 10), rowTwo[kind]);
            DUE.is("row 2's end, kind " + kind, x.wet(0, 11, 10), rowTwo[kind]);
            DUE.is("dry, kind " + kind, x.wet(0, 8, 0), 0);
            DUE.is("1, kind " + kind, x.wet(0, 0, 1), rowOne[kind] - 9);
            DUE.is("99, kind " + kind, x.wet(0, 0, 99), rowOne[kind] + 89);
        }
    }

    private static void deepAndSkin() {
        PaintedOver x = Due.threeCoats(0, 0);
        int[] depths = {8, 5, 7, 10, 10, 10, 10, 10, 10, 10, 10, 10};
        for (int cell = 0; cell < 12; cell++) {
            DUE.is("deep " + cell, x.deep(0, cell), depths[cell]);
        }
        DUE.is("skin", x.skin(0), 110);
        x.scratch(0, 11);
        DUE.is("deep behind a scratch", x.deep(0, 11), 7);
        DUE.is("skin behind a scratch", x.skin(0), 107);
        x.house(0, 0);
        DUE.is("deep of no coats", x.deep(1, 0), 0);
        DUE.is("skin of no coats", x.skin(1), 0);
    }

    private static void hailedIs(PaintedOver x, int cell, int h, int coats) {
        DUE.is("hailed in " + cell + " by " + h, x.hailed(0, cell, h), coats);
    }

    private static void hailed() {
        PaintedOver x = Due.threeCoats(0, 9);
        hailedIs(x, 3, 0, 7);
        hailedIs(x, 3, 2, 7);
        hailedIs(x, 3, 3, 3);
        hailedIs(x, 3, 7, 3);
        hailedIs(x, 3, 8, 1);
        hailedIs(x, 3, 9, 1);
        hailedIs(x, 3, 10, 0);
        hailedIs(x, 3, 99, 0);
        hailedIs(x, 0, 0, 6);
        hailedIs(x, 0, 3, 2);
        hailedIs(x, 0, 8, 0);
        hailedIs(x, 1, 3, 1);
        hailedIs(x, 1, 5, 0);
        hailedIs(x, 2, 4, 3);
        hailedIs(x, 2, 5, 1);
        hailedIs(x, 2, 7, 0);
        hailedIs(x, 11, 3, 3);
        DUE.is("nothing is changed", x.skin(0), 110);
        x.scratch(0, 3);
        hailedIs(x, 3, 4, 3);
        hailedIs(x, 3, 5, 1);
    }

    private static void hailedByKinds() {
        // the first hail by which a coat of thickness 4 goes from cell 4 of a house of a = 3
        int[] first = {4, 4, 7, 4, 4, 7, 5};
        for (int kind = 0; kind < 7; kind++) {
            PaintedOver x = new PaintedOver();
            x.house(kind, 3);
            x.coat(0, 0, 0, 4, 11);
            hailedIs(x, 4, first[kind] - 1, 1);
            hailedIs(x, 4, first[kind], 0);
            hailedIs(x, 0, first[kind] - 1, 1);
            hailedIs(x, 0, first[kind], kind == 5 ? 1 : 0);
            hailedIs(x, 3, 99, kind == 5 ? 1 : 0);
            hailedIs(x, 8, first[kind], 0);
        }
        PaintedOver bare = new PaintedOver();
        bare.house(6, 9);
        bare.coat(0, 0, 0, 1, 11);
        hailedIs(bare, 0, 1, 1);
        hailedIs(bare, 0, 9, 1);
        hailedIs(bare, 0, 10, 0);
    }

    private static void razors() {
        PaintedOver x = Due.threeCoats(0, 0);
        int[] cells = {1, 2, 0};
        int[] above = {3, 0, 0};
        for (int coat = 0; coat < 3; coat++) {
            DUE.is("razor for " + coat, x.razor(0, coat, 0), cells[coat]);
            DUE.is("razor above " + coat, x.razor(0, coat, 1), above[coat]);
        }
    }

    private static void razorBehindScratches() {
        PaintedOver x = Due.threeCoats(0, 0);
        x.scratch(0, 7);
        x.scratch(0, 7);
        DUE.is("razor where others are gone", x.razor(0, 0, 0), 7);
        DUE.is("razor above", x.razor(0, 0, 1), 0);
        x.scratch(0, 7);
        DUE.is("razor where it lies", x.razor(0, 0, 0), 1);
        for (int cell = 0; cell < 12; cell++) {
            if (cell != 2) {
                x.scratch(0, cell);
            }
        }
        DUE.is("razor of one that lies in no cell", x.razor(0, 2, 0), -1);
        DUE.is("how much of one that lies in no cell", x.razor(0, 2, 1), -1);
        DUE.is("no refusal", Due.refusals(x), 1_00L);
        DUE.is("what ahead of lying", x.razor(0, 2, 2), -15);
    }

    private static void hiddenAndShown() {
        PaintedOver x = Due.threeCoats(0, 0);
        int[][] hidden = {{0, 1}, {1, 4}, {10, 4}, {11, 6}, {18, 6}, {19, 7}, {99, 7}};
        for (int[] pair : hidden) {
            DUE.is("hidden at " + pair[0], x.hidden(0, pair[0]), pair[1]);
        }
        int[][] shown = {{0, 0}, {2, 0}, {3, 1}, {4, 1}, {8, 1}, {10, 0}, {99, 0}};
        for (int[] pair : shown) {
            DUE.is("shown by " + pair[0], x.shown(0, pair[0]), pair[1]);
        }
        DUE.is("nothing is changed", x.skin(0), 110);
        for (int cell = 0; cell < 12; cell++) {
            if (cell != 2) {
                x.scratch(0, cell);
            }
        }
        DUE.is("one that lies nowhere is hidden", x.hidden(0, 0) & 4, 4);
        x.house(0, 0);
        DUE.is("hidden without coats", x.hidden(1, 0), 0);
        DUE.is("shown without coats", x.shown(1, 99), 0);
        PaintedOver tiled = Due.threeCoats(5, 9);
        DUE.is("shown on tiles, 11", tiled.shown(0, 11), 0);
        DUE.is("shown on tiles, 17: the upper cells keep theirs", tiled.shown(0, 17), 1);
        for (int n = 3; n < 8; n++) {
            x.coat(0, 0, 2, 1, 0);
        }
        DUE.is("eight coats, all hidden", x.hidden(0, 99), 255);
    }

    /** In each cell in turn a coat is seen that is seen nowhere else, and another is shown there by hail. */
    private static void seenInOneCellAlone() {
        for (int cell = 0; cell < 12; cell++) {
            PaintedOver x = new PaintedOver();
            x.house(0, 0);
            x.coat(0, 0, 0, 9, (cell + 1) % 12);
            x.coat(0, 1, 0, 3, (cell + 2) % 12);
            x.coat(0, 2, 0, 5, cell);
            DUE.is("hidden beneath, but for " + cell, x.hidden(0, 0), 1);
            DUE.is("first wet in " + cell, x.firstWet(0, 1), 0);
            DUE.is("shown in " + cell, x.shown(0, 4), 1);
            DUE.is("shown elsewhere", x.shown(0, 2), 0);
            x.colour(0, 1, 7);
            x.colour(1, 1, 90);
            x.coat(0, 3, 1, 1, 11 - cell);
            DUE.is("price of two", x.price(0, 0), 97);
        }
    }

    private static void firstWet() {
        PaintedOver x = Due.threeCoats(0, 0);
        DUE.is("lowest", x.firstWet(0, 0), 1);
        DUE.is("middle", x.firstWet(0, 1), 0);
        DUE.is("uppermost", x.firstWet(0, 2), 0);
        x.coat(0, 0, 5, 9, 3);
        DUE.is("beneath 81: in its gap", x.firstWet(0, 1), 1);
        DUE.is("beneath 81: in its gap, weaker", x.firstWet(0, 0), 11);
        x.coat(0, 0, 5, 9, 4);
        DUE.is("beneath two of 81", x.firstWet(0, 0), -1);
        DUE.is("of no strength", x.firstWet(0, 2), -1);
        DUE.is("the lower of two", x.firstWet(0, 3), 0);
        DUE.is("no refusals", Due.refusals(x), 0);
        PaintedOver y = new PaintedOver();
        y.house(0, 0);
        y.colour(0, 0, 9);
        y.colour(1, 0, 8);
        y.coat(0, 0, 0, 9, 0);
        y.coat(0, 0, 1, 9, 1);
        y.coat(0, 0, 1, 9, 2);
        DUE.is("above 72", y.firstWet(0, 0), 73);
        PaintedOver z = new PaintedOver();
        z.house(4, 0);
        z.colour(0, 0, 9);
        z.coat(0, 0, 0, 9, 0);
        DUE.is("seen until 72", z.seen(0, 1, 72), 0);
        DUE.is("on the south", z.seen(0, 1, 73), -1);
    }

    private static void refusals() {
        PaintedOver x = Due.threeCoats(0, 0);
        DUE.is("seen, house", x.seen(1, 12, 100), -11);
        DUE.is("seen, house -1", x.seen(-1, 0, 0), -11);
        DUE.is("seen, cell", x.seen(0, 12, 100), -15);
        DUE.is("seen, cell -1", x.seen(0, -1, 0), -15);
        DUE.is("seen, d", x.seen(0, 0, 100), -16);
        DUE.is("seen, d -1", x.seen(0, 0, -1), -16);
        DUE.is("wet, house", x.wet(1, 12, 100), -1);
        DUE.is("wet, house -1", x.wet(-1, 0, 0), -1);
        DUE.is("wet, cell", x.wet(0, 12, 100), -5);
        DUE.is("wet, cell -1", x.wet(0, -1, 0), -5);
        DUE.is("wet, d", x.wet(0, 0, 100), -6);
        DUE.is("wet, d -1", x.wet(0, 0, -1), -6);
        DUE.is("refusals", Due.refusals(x), 4_00_00_00_04_04_00L);
        DUE.is("deep, house", x.deep(1, 12), -1);
        DUE.is("deep, house -1", x.deep(-1, 0), -1);
        DUE.is("deep, cell", x.deep(0, 12), -5);
        DUE.is("deep, cell -1", x.deep(0, -1), -5);
        DUE.is("skin, house", x.skin(1), -1);
        DUE.is("skin, house -1", x.skin(-1), -1);
        DUE.is("hailed, house", x.hailed(1, 12, 100), -1);
        DUE.is("hailed, house -1", x.hailed(-1, 0, 0), -1);
        DUE.is("hailed, cell", x.hailed(0, 12, 100), -5);
        DUE.is("hailed, cell -1", x.hailed(0, -1, 0), -5);
        DUE.is("hailed, h", x.hailed(0, 0, 100), -6);
        DUE.is("hailed, h -1", x.hailed(0, 0, -1), -6);
        DUE.is("refusals", Due.refusals(x), 10_00_00_00_08_06_00L);
        DUE.is("razor, house", x.razor(1, 0, 2), -11);
        DUE.is("razor, house -1", x.razor(-1, 0, 0), -11);
        DUE.is("razor, coat", x.razor(0, 3, 2), -11);
        DUE.is("razor, coat -1", x.razor(0, -1, 0), -11);
        DUE.is("razor, what", x.razor(0, 0, 2), -15);
        DUE.is("razor, what -1", x.razor(0, 0, -1), -15);
        DUE.is("hidden, house", x.hidden(1, 100), -1);
        DUE.is("hidden, house -1", x.hidden(-1, 0), -1);
        DUE.is("hidden, d", x.hidden(0, 100), -6);
        DUE.is("hidden, d -1", x.hidden(0, -1), -6);
        DUE.is("shown, house", x.shown(1, 100), -1);
        DUE.is("shown, house -1", x.shown(-1, 0), -1);
        DUE.is("shown, h", x.shown(0, 100), -6);
        DUE.is("shown, h -1", x.shown(0, -1), -6);
        DUE.is("firstWet, house", x.firstWet(1, 0), -11);
        DUE.is("firstWet, house -1", x.firstWet(-1, 0), -11);
        DUE.is("firstWet, coat", x.firstWet(0, 3), -11);
        DUE.is("firstWet, coat -1", x.firstWet(0, -1), -11);
        DUE.is("refusals", Due.refusals(x), 22_00_00_00_10_10_00L);
    }
}
