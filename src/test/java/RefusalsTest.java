/**
 * Each refusal of each call, by all combinations of arguments at their edges: of those that fit the first is
 * answered, it counts as what the document says, and nothing else changes by it.
 */
public final class RefusalsTest {
    private static final Due DUE = new Due("RefusalsTest");
    private static final int MIN = Integer.MIN_VALUE;
    private static final int MAX = Integer.MAX_VALUE;

    private static final int[] SHELF = {MIN, -1, 0, 1, 2, 3, 4, 5, 6, 7, 8, MAX};
    private static final int[] FEW_SHELVES = {-1, 0, 1, 2, 3, 7, 8};
    private static final int[] HOUSE = {MIN, -1, 0, 1, 2, 5, 6, MAX};
    private static final int[] COAT = {MIN, -1, 0, 1, 2, 7, 8, MAX};
    private static final int[] KIND = {MIN, -1, 0, 1, 2, 3, 4, 5, 6, 7, MAX};
    private static final int[] TENANT = {MIN, -1, 0, 7, 8, MAX};
    private static final int[] COLOUR = {MIN, -1, 0, 5, 6, MAX};
    private static final int[] CELL = {MIN, -1, 0, 11, 12, MAX};
    private static final int[] HUNDRED = {MIN, -1, 0, 99, 100, MAX};
    private static final int[] ONE_OF_TWO = {MIN, -1, 0, 1, 2, MAX};

    private static final int[] COATS_ON = {8, 2, 0, 0, 0, 0};
    private static final int[] KINDS_OF = {0, 3, 6, 5, 4, 1};

    private static long[] plainLook;
    private static long[] plainImage;

    private interface Call {
        long on(PaintedOver x, int[] a);
    }

    private interface Fits {
        boolean is(int[] a);
    }

    private record Rule(int answer, Fits fits) {
    }

    public static void main(String[] args) {
        plainLook = Scene.look(Scene.furnished());
        PaintedOver restored = Scene.furnished();
        restored.restore();
        plainImage = Scene.lookAtTown(restored);
        DUE.is("the image isn't what is now", java.util.Arrays.equals(plainImage, Scene.lookAtTown(Scene.furnished())) ? 1 : 0, 0);
        shelves();
        copies();
        housesAndColours();
        coats();
        streets();
        whatIsSeen();
        whatComesOfIt();
        orders();
        inTruth();
        withoutHousesOrImage();
        nothingIsRefused();
        DUE.end();
    }

    private static Rule rule(int answer, Fits fits) {
        return new Rule(answer, fits);
    }

    private static boolean outside(int i, int size) {
        return i < 0 || i >= size;
    }

    private static boolean noCoat(int house, int coat) {
        return outside(coat, COATS_ON[house]);
    }

    private static boolean holdsHouse(int s) {
        return s == Scene.CELLAR || s == Scene.BARE;
    }

    private static boolean holdsRow(int s) {
        return !holdsHouse(s) && s != Scene.NOTHING;
    }

    /** Makes a call on furnished objects with all combinations of these values. */
    private static void refuses(String name, Call call, int[][] values, Rule... rules) {
        int[] a = new int[values.length];
        int[] at = new int[values.length];
        int turned;
        do {
            for (int k = 0; k < values.length; k++) {
                a[k] = values[k][at[k]];
            }
            refusedOrNot(name + java.util.Arrays.toString(a), call, a, rules);
            turned = 0;
            while (turned < values.length && ++at[turned] == values[turned].length) {
                at[turned++] = 0;
            }
        } while (turned < values.length);
    }

    private static void refusedOrNot(String name, Call call, int[] a, Rule... rules) {
        for (Rule one : rules) {
            if (one.fits.is(a)) {
                refused(name, call, a, one.answer);
                return;
            }
        }
        PaintedOver x = Scene.furnished();
        long before = Due.refusals(x);
        call.on(x, a);
        DUE.is(name + " counts no refusal", Due.refusals(x) - before, 0);
    }

    private static void refused(String name, Call call, int[] a, int answer) {
        PaintedOver x = Scene.furnished();
        long before = Due.refusals(x);
        DUE.is(name, call.on(x, a), answer);
        DUE.is(name + " counts once", Due.refusals(x) - before, counted(answer));
        DUE.same(name + " changes nothing", Scene.look(x), plainLook);
        x.restore();
        DUE.same(name + " changes nothing of the image", Scene.lookAtTown(x), plainImage);
    }

    /** By how much Due.refusals() grows by an answer: -1, -11 and -1001 count as -1, and so on. */
    private static long counted(int answer) {
        long one = 1;
        for (int n = -answer % 10; n < 7; n++) {
            one *= 100;
        }
        return one;
    }

    private static void shelves() {
        refuses("row", (x, a) -> x.row(a[0], a[1], a[2]),
            new int[][] {SHELF, {MIN, -1, 0, 3, 4, MAX}, {MIN, -1, 0, 160, 161, MAX}},
            rule(-1, a -> outside(a[0], 8)), rule(-4, a -> a[2] < 0), rule(-6, a -> outside(a[1], 4)),
            rule(-7, a -> a[2] > 160));
        refuses("set", (x, a) -> x.set(a[0], a[1], 5), new int[][] {SHELF, {MIN, -1, 0, 1, 2, 3, 5, 6, 20, 21, MAX}},
            rule(-1, a -> outside(a[0], 8)), rule(-2, a -> holdsHouse(a[0])), rule(-3, a -> a[0] == Scene.NOTHING),
            rule(-5, a -> outside(a[1], Scene.size(a[0]))));
        refuses("show", (x, a) -> x.show(a[0], a[1]), new int[][] {SHELF, {MIN, -2, -1, 0, 5, 6, 100, MAX}},
            rule(-1, a -> outside(a[0], 8) || a[1] != -1 && outside(a[1], 6)));
        refuses("says", (x, a) -> x.says(a[0], a[1]), new int[][] {SHELF, KIND},
            rule(-1, a -> outside(a[0], 8) || outside(a[1], 7)), rule(-2, a -> holdsRow(a[0])),
            rule(-2, a -> a[0] == Scene.CELLAR && a[1] != 3 && a[1] != 1 && a[1] != 0),
            rule(-2, a -> a[0] == Scene.BARE && a[1] != 6 && a[1] != 2 && a[1] != 0),
            rule(-3, a -> a[0] == Scene.NOTHING));
    }

    private static int sort(int s) {
        int[] sorts = {0, -1, -1, 1, 0, 2, -1, 3};
        return sorts[s];
    }

    private static void copies() {
        int[] from = {MIN, -1, 0, 2, 3, 4, MAX};
        int[] n = {MIN, -1, 0, 1, 3, 4, MAX};
        Rule[] rules = {
            rule(-1, a -> outside(a[0], 8) || outside(a[1], 8)),
            rule(-2, a -> holdsHouse(a[0]) || holdsHouse(a[1])),
            rule(-2, a -> holdsRow(a[0]) && holdsRow(a[1]) && sort(a[0]) != sort(a[1])),
            rule(-3, a -> a[0] == Scene.NOTHING || a[1] == Scene.NOTHING),
            rule(-4, a -> a[4] < 0),
            rule(-5, a -> a[2] < 0 || a[3] < 0),
            rule(-5, a -> (long) a[2] + a[4] > Scene.size(a[0]) || (long) a[3] + a[4] > Scene.size(a[1])),
        };
        Call copy = (x, a) -> x.copy(a[0], a[1], a[2], a[3], a[4]);
        refuses("copy", copy, new int[][] {FEW_SHELVES, FEW_SHELVES, {-1, 0, 3}, {-1, 0, 3}, {-1, 0, 1, MAX}}, rules);
        refuses("copy", copy, new int[][] {{Scene.FEW_PAIRS}, {Scene.FEW_PAIRS, Scene.TEXT}, from, from, n}, rules);
        refuses("copy", copy, new int[][] {{Scene.TEXT}, {Scene.FEW_PAIRS}, from, from, n}, rules);
    }

    private static void housesAndColours() {
        refuses("house", (x, a) -> x.house(a[0], a[1]), new int[][] {KIND, {MIN, -1, 0, 9, 10, MAX}},
            rule(-1, a -> outside(a[0], 7)), rule(-6, a -> outside(a[1], 10)), rule(-7, a -> true));
        refuses("houseOf", (x, a) -> x.houseOf(a[0], a[1]), new int[][] {HOUSE, {MIN, -1, 0, 1, 2, 3, 4, 5, MAX}},
            rule(-5, a -> outside(a[0], 6)), rule(-5, a -> outside(a[1], 5)));
        refuses("colour", (x, a) -> x.colour(a[0], a[1], a[2]),
            new int[][] {COLOUR, ONE_OF_TWO, {MIN, -1, 0, 9, 10, 99, 100, MAX}},
            rule(-1, a -> outside(a[0], 6)), rule(-5, a -> outside(a[1], 2)), rule(-6, a -> a[2] < 0 || a[2] > 99),
            rule(-6, a -> a[1] == 0 && a[2] > 9));
        refuses("ask", (x, a) -> x.ask(a[0], a[1]), new int[][] {ONE_OF_TWO, {MIN, -1, 0, 1, 9, 10, 99, 100, 999, 1000, MAX}},
            rule(-6, a -> outside(a[0], 2)), rule(-6, a -> a[0] == 0 && (a[1] < 1 || a[1] > 999)),
            rule(-6, a -> a[0] == 1 && (a[1] < 10 || a[1] > 99)));
    }

    private static void coats() {
        refuses("coat", (x, a) -> x.coat(a[0], a[1], a[2], a[3], a[4]),
            new int[][] {{-1, 0, 1, 5, 6}, {-1, 0, 7, 8}, {-1, 0, 5, 6}, {MIN, 0, 1, 9, 10, MAX}, {-1, 0, 11, 12}},
            rule(-1, a -> outside(a[0], 6) || outside(a[1], 8) || outside(a[2], 6)),
            rule(-6, a -> a[3] < 1 || a[3] > 9 || outside(a[4], 12)), rule(-7, a -> a[0] == 0));
        refuses("coat", (x, a) -> x.coat(a[0], a[1], a[2], 1, a[3]), new int[][] {HOUSE, TENANT, COLOUR, CELL},
            rule(-1, a -> outside(a[0], 6) || outside(a[1], 8) || outside(a[2], 6)),
            rule(-6, a -> outside(a[3], 12)), rule(-7, a -> a[0] == 0));
        refuses("coatOf", (x, a) -> x.coatOf(a[0], a[1], a[2]),
            new int[][] {HOUSE, COAT, {MIN, -1, 0, 1, 2, 3, 4, 5, 6, 7, MAX}},
            rule(-5, a -> outside(a[0], 6)), rule(-5, a -> noCoat(a[0], a[1])), rule(-5, a -> outside(a[2], 7)));
    }

    /** The text's fault is the same as before; that of another row would be told by fault(). */
    private static void streets() {
        refuses("street", (x, a) -> x.street(a[0]), new int[][] {{MIN, -1, 1, 2, 4, 6, 8, MAX}},
            rule(-1, a -> outside(a[0], 8)), rule(-2, a -> holdsHouse(a[0])), rule(-3, a -> a[0] == Scene.NOTHING),
            rule(-6, a -> true));
    }

    private static void whatIsSeen() {
        Rule house = rule(-1, a -> outside(a[0], 6));
        Rule houseDown = rule(-11, a -> outside(a[0], 6));
        Rule cell = rule(-5, a -> outside(a[1], 12));
        Rule hundred = rule(-6, a -> outside(a[1], 100));
        Rule hundredLast = rule(-6, a -> outside(a[2], 100));
        int[][] houseCellHundred = {HOUSE, CELL, HUNDRED};
        int[][] houseHundred = {HOUSE, HUNDRED};
        refuses("seen", (x, a) -> x.seen(a[0], a[1], a[2]), houseCellHundred, houseDown,
            rule(-15, a -> outside(a[1], 12)), rule(-16, a -> outside(a[2], 100)));
        refuses("wet", (x, a) -> x.wet(a[0], a[1], a[2]), houseCellHundred, house, cell, hundredLast);
        refuses("deep", (x, a) -> x.deep(a[0], a[1]), new int[][] {HOUSE, CELL}, house, cell);
        refuses("skin", (x, a) -> x.skin(a[0]), new int[][] {HOUSE}, house);
        refuses("hailed", (x, a) -> x.hailed(a[0], a[1], a[2]), houseCellHundred, house, cell, hundredLast);
        refuses("razor", (x, a) -> x.razor(a[0], a[1], a[2]), new int[][] {HOUSE, COAT, ONE_OF_TWO}, houseDown,
            rule(-11, a -> noCoat(a[0], a[1])), rule(-15, a -> outside(a[2], 2)));
        refuses("hidden", (x, a) -> x.hidden(a[0], a[1]), houseHundred, house, hundred);
        refuses("shown", (x, a) -> x.shown(a[0], a[1]), houseHundred, house, hundred);
        refuses("firstWet", (x, a) -> x.firstWet(a[0], a[1]), new int[][] {HOUSE, COAT}, houseDown,
            rule(-11, a -> noCoat(a[0], a[1])));
    }

    private static void whatComesOfIt() {
        refuses("paint", (x, a) -> x.paint(a[0], a[1], a[2]), new int[][] {HOUSE, CELL, HUNDRED},
            rule(-11, a -> outside(a[0], 6)), rule(-16, a -> outside(a[1], 12) || outside(a[2], 100)),
            rule(-17, a -> a[0] == 0));
        refuses("gap", (x, a) -> x.gap(a[0], a[1]), new int[][] {HOUSE, TENANT},
            rule(-11, a -> outside(a[0], 6) || outside(a[1], 8)));
        refuses("moves", (x, a) -> x.moves(a[0], a[1]), new int[][] {TENANT, ONE_OF_TWO},
            rule(-1, a -> outside(a[0], 8)), rule(-5, a -> outside(a[1], 2)));
        refuses("lane", (x, a) -> x.lane(a[0], a[1]), new int[][] {HOUSE, HOUSE},
            rule(-1001, a -> outside(a[0], 6) || outside(a[1], 6)), rule(-1006, a -> a[0] == a[1]));
        refuses("price", (x, a) -> x.price(a[0], a[1]), new int[][] {HOUSE, HUNDRED},
            rule(-1, a -> outside(a[0], 6)), rule(-6, a -> outside(a[1], 100)));
    }

    /** Whether the first n elements of a furnished object's row are no pairs. */
    private static boolean noPairs(int s, int n) {
        return n > 0 && (s == Scene.TEXT || s == Scene.OVER_ITSELF);
    }

    /** How many tenants the first n pairs of a furnished object's row name; none if no order fits. */
    private static int places(int s, int n) {
        if (n == 0 || s == Scene.NO_ORDER && n == 2) {
            return 0;
        }
        return Math.min(8, n + 1);
    }

    private static void orders() {
        int[] n = {MIN, -1, 0, 1, 2, 3, 4, 6, 7, 20, 21, 22, MAX};
        refuses("orders", (x, a) -> x.orders(a[0], a[1], a[2]),
            new int[][] {SHELF, n, {MIN, -2, -1, 0, 1, 2, 3, 4, 7, 8, MAX}},
            rule(-1, a -> outside(a[0], 8)), rule(-2, a -> holdsHouse(a[0])), rule(-3, a -> a[0] == Scene.NOTHING),
            rule(-4, a -> a[1] < 0), rule(-5, a -> a[1] > Scene.size(a[0])), rule(-5, a -> a[2] < -1),
            rule(-6, a -> a[1] > 20), rule(-6, a -> noPairs(a[0], a[1])), rule(-5, a -> a[2] >= places(a[0], a[1])));
        refuses("forged", (x, a) -> x.forged(a[0], a[1]), new int[][] {SHELF, n},
            rule(-11, a -> outside(a[0], 8)), rule(-12, a -> holdsHouse(a[0])), rule(-13, a -> a[0] == Scene.NOTHING),
            rule(-14, a -> a[1] < 0), rule(-15, a -> a[1] > Scene.size(a[0])),
            rule(-16, a -> a[1] > 20), rule(-16, a -> noPairs(a[0], a[1])));
    }

    /** On house 1 of a furnished object cell 0 is laid bare, and on 2 to 5 all cells are. */
    private static void inTruth() {
        refuses("hail", (x, a) -> x.hail(a[0]), new int[][] {HUNDRED}, rule(-6, a -> outside(a[0], 100)));
        refuses("scratch", (x, a) -> x.scratch(a[0], a[1]), new int[][] {HOUSE, CELL},
            rule(-1, a -> outside(a[0], 6)), rule(-5, a -> outside(a[1], 12)),
            rule(-6, a -> a[0] >= 2 || a[0] == 1 && a[1] == 0));
        refuses("years", (x, a) -> x.years(a[0]), new int[][] {{MIN, -1, 0, 1, 40, 41, MAX}},
            rule(-6, a -> a[0] < 1 || a[0] > 40));
        refuses("restore", (x, a) -> x.restore(), new int[][] {});
    }

    /** A refusal on an object without houses and image; what is built later is as on a new one. */
    private static void refusedAtFirst(String name, Call call, int a, int answer) {
        PaintedOver x = new PaintedOver();
        DUE.is(name, call.on(x, new int[] {a}), answer);
        DUE.is(name + " counts once", Due.refusals(x), counted(answer));
        DUE.same(name + " changes nothing", Scene.look(x), Scene.look(new PaintedOver()));
    }

    private static void withoutHousesOrImage() {
        int[] n = {MIN, -1, 0, 1, 40, 41, MAX};
        for (int one : n) {
            refusedAtFirst("years " + one + " without houses", (x, a) -> x.years(a[0]), one, -5);
        }
        refusedAtFirst("restore without an image", (x, a) -> x.restore(), 0, -6);
        refusedAtFirst("restore without an image, twice", (x, a) -> x.restore(), 0, -6);
        PaintedOver x = new PaintedOver();
        x.house(1, 1);
        x.coat(0, 1, 1, 1, 1);
        x.restore();
        DUE.is("houses stay, without an image", x.status(0), 1);
        DUE.is("coats stay, without an image", x.status(1), 1);
        DUE.is("restore without an image again", x.restore(), -6);
        DUE.is("both are counted", Due.refusals(x), 2_00L);
    }

    /** Calls of which the document names no refusal count none, whatever they are asked. */
    private static void nothingIsRefused() {
        int[] any = {MIN, -1, 0, 1, 2, 3, 7, 8, 10, 11, 17, 18, 160, MAX};
        refuses("element", (x, a) -> x.element(a[0], a[1]), new int[][] {SHELF, any});
        refuses("holds", (x, a) -> x.holds(a[0]), new int[][] {SHELF});
        refuses("fault", (x, a) -> x.fault(), new int[][] {});
        refuses("falls", (x, a) -> x.falls(), new int[][] {});
        refuses("seed", (x, a) -> x.seed(a[0]), new int[][] {any});
        refuses("act", (x, a) -> x.act(a[0], a[1], a[2]), new int[][] {HOUSE, {MIN, -1, 0, 2, 3, MAX}, {MIN, 0, MAX}});
        refuses("trace", (x, a) -> x.trace(a[0]), new int[][] {any});
        refuses("image", (x, a) -> x.image(), new int[][] {});
        refuses("status", (x, a) -> x.status(a[0]), new int[][] {any});
    }
}
