import java.util.ArrayList;
import java.util.List;

/** The sentences of the terms' part 3 (what comes of it) at their edges. */
public final class ComesEdgesTest {
    private static final Due DUE = new Due("ComesEdgesTest");

    public static void main(String[] args) {
        razorOfSeveralTheFirst();
        razorOfNone();
        hiddenAtItsStrength();
        shownBehindHail();
        firstWetLeastAndGreatest();
        firstWetOfNone();
        paintAtItsStrength();
        paintOfSeveralTheFirst();
        paintBesideTheGap();
        paintOfNone();
        paintOnSevenAndEight();
        gapOfSeveralTheFirst();
        gapOfNone();
        lived();
        moves();
        dates();
        pairsThatMayBe();
        ordersOfAllPairs();
        ordersBehindEachOther();
        placesOfTheFirst();
        forgedByTheFirst();
        laneLeastAndGreatest();
        priceEachOnce();
        DUE.end();
    }

    private static PaintedOver oneHouse() {
        PaintedOver x = new PaintedOver();
        x.house(0, 0);
        return x;
    }

    /** "With least THICK above it, of several the first". */
    private static void razorOfSeveralTheFirst() {
        for (int gap = 0; gap < 12; gap++) {
            PaintedOver x = oneHouse();
            x.coat(0, 0, 0, 1, 0);
            x.coat(0, 0, 0, 4, gap);
            DUE.is("where the upper one isn't", x.razor(0, 0, 0), gap == 0 ? 1 : gap);
            DUE.is("how much", x.razor(0, 0, 1), gap == 0 ? 4 : 0);
            DUE.is("the upper one: the first", x.razor(0, 1, 0), gap == 0 ? 1 : 0);
            DUE.is("how much above it", x.razor(0, 1, 1), 0);
        }
        PaintedOver x = oneHouse();
        x.coat(0, 0, 0, 1, 11);
        x.coat(0, 0, 0, 4, 11);
        x.coat(0, 0, 0, 9, 6);
        DUE.is("least above, though not at once", x.razor(0, 0, 0), 6);
        DUE.is("least above: how much", x.razor(0, 0, 1), 4);
        x.scratch(0, 3);
        DUE.is("as much above in an earlier cell", x.razor(0, 0, 0), 3);
        x.scratch(0, 9);
        x.scratch(0, 9);
        DUE.is("less in a later one", x.razor(0, 0, 0), 9);
        DUE.is("less in a later one: how much", x.razor(0, 0, 1), 0);
        DUE.is("what lies beneath doesn't count", x.razor(0, 1, 1), 0);
        DUE.is("what -1", x.razor(0, 0, -1), -15);
        DUE.is("what 2", x.razor(0, 0, 2), -15);
    }

    private static void razorOfNone() {
        PaintedOver x = oneHouse();
        x.coat(0, 0, 0, 1, 0);
        for (int cell = 1; cell < 12; cell++) {
            DUE.is("in the first that is left", x.razor(0, 0, 0), cell);
            DUE.is("nothing above", x.razor(0, 0, 1), 0);
            x.scratch(0, cell);
        }
        DUE.is("it lies in none", x.razor(0, 0, 0), -1);
        DUE.is("how much: NONE", x.razor(0, 0, 1), -1);
        DUE.is("what 2 still", x.razor(0, 0, 2), -15);
        DUE.is("it lies in none", x.coatOf(0, 0, 6), 0);
        DUE.is("refusals", Due.refusals(x), 1_00_00L);
    }

    private static void hiddenAtItsStrength() {
        PaintedOver x = oneHouse();
        DUE.is("no coats", x.hidden(0, 0), 0);
        x.coat(0, 0, 0, 9, 0);
        x.coat(0, 0, 0, 4, 0);
        DUE.is("hidden dry", x.hidden(0, 0), 1);
        DUE.is("hidden at 12", x.hidden(0, 12), 1);
        DUE.is("hidden at 13", x.hidden(0, 13), 2);
        DUE.is("hidden at 27", x.hidden(0, 27), 2);
        DUE.is("hidden at 28", x.hidden(0, 28), 3);
        DUE.is("hidden at 99", x.hidden(0, 99), 3);
        x.scratch(0, 11);
        DUE.is("one cell lays it bare", x.hidden(0, 0), 0);
        x.scratch(0, 11);
        DUE.is("none where nothing lies", x.hidden(0, 0), 1);
    }

    private static void shownBehindHail() {
        PaintedOver x = oneHouse();
        DUE.is("no coats", x.shown(0, 99), 0);
        x.coat(0, 0, 0, 2, 0);
        DUE.is("one that is seen now isn't shown", x.shown(0, 1), 0);
        x.coat(0, 0, 0, 5, 0);
        x.coat(0, 0, 0, 3, 0);
        int[] shown = {0, 0, 0, 2, 2, 2, 2, 2, 1, 1, 0, 0};
        for (int h = 0; h < shown.length; h++) {
            DUE.is("shown by " + h, x.shown(0, h), shown[h]);
        }
        DUE.is("shown by 99", x.shown(0, 99), 0);
        x.scratch(0, 4);
        DUE.is("what is seen in one cell isn't shown", x.shown(0, 3), 0);
        DUE.is("by 5 the lowest, there", x.shown(0, 5), 1);
        DUE.is("by 7 too, there it is gone", x.shown(0, 7), 0);
        DUE.is("by 8", x.shown(0, 8), 1);
        DUE.is("nothing is changed", x.skin(0), 110 - 3);
    }

    private static void firstWetLeastAndGreatest() {
        PaintedOver x = oneHouse();
        x.colour(0, 0, 9);
        x.colour(1, 0, 8);
        x.colour(2, 0, 0);
        x.coat(0, 0, 0, 9, 0);
        x.coat(0, 0, 2, 9, 0);
        DUE.is("the uppermost, dry", x.firstWet(0, 1), 0);
        DUE.is("beneath one of no strength", x.firstWet(0, 0), 1);
        x.coat(0, 0, 1, 9, 0);
        DUE.is("one above 72", x.firstWet(0, 0), 73);
        DUE.is("of no strength, beneath", x.firstWet(0, 1), -1);
        for (int d = 0; d < 73; d++) {
            DUE.is("not seen at " + d, x.hidden(0, d) & 1, 1);
        }
        DUE.is("seen at 73", x.hidden(0, 73), 6);
        PaintedOver damp = new PaintedOver();
        damp.house(1, 9);
        damp.coat(0, 0, 0, 9, 0);
        damp.coat(0, 0, 0, 3, 0);
        DUE.is("damp: 1 is 10", damp.firstWet(0, 0), 1);
        DUE.is("no refusals", Due.refusals(damp), 0);
    }

    private static void firstWetOfNone() {
        PaintedOver x = oneHouse();
        x.colour(0, 0, 9);
        x.coat(0, 0, 1, 9, 0);
        x.coat(0, 0, 0, 9, 0);
        DUE.is("beneath a stronger one", x.firstWet(0, 0), -1);
        for (int cell = 1; cell < 12; cell++) {
            x.scratch(0, cell);
        }
        DUE.is("one that lies in none", x.firstWet(0, 1), -1);
        DUE.is("the other is seen dry", x.firstWet(0, 0), 0);
        DUE.is("no refusals", Due.refusals(x), 0);
        DUE.is("no coat 2", x.firstWet(0, 2), -11);
        DUE.is("no coat -1", x.firstWet(0, -1), -11);
        DUE.is("refusals", Due.refusals(x), 2_00_00_00_00_00_00L);
    }

    /** The least thickness by weather, one colour being cheap; STRENGTH is WET at least. */
    private static void paintAtItsStrength() {
        for (int hides = 1; hides <= 9; hides++) {
            PaintedOver x = oneHouse();
            for (int c = 0; c < 6; c++) {
                x.colour(c, 0, 0);
            }
            x.colour(5, 0, hides);
            DUE.is("dry: the first", x.paint(0, 0, 0), 1);
            for (int thick = 1; thick <= 9; thick++) {
                DUE.is("just enough", x.paint(0, 0, hides * thick), 50 + thick);
                DUE.is("one more", x.paint(0, 0, hides * thick + 1), thick == 9 ? -1 : 51 + thick);
            }
        }
    }

    private static void paintOfSeveralTheFirst() {
        PaintedOver x = oneHouse();
        for (int c = 0; c < 6; c++) {
            x.colour(c, 1, 0);
        }
        DUE.is("for nothing: the first colour, the first thickness", x.paint(0, 0, 4), 2);
        x.colour(0, 1, 1);
        DUE.is("the second colour", x.paint(0, 0, 4), 12);
        for (int c = 1; c < 6; c++) {
            x.colour(c, 1, 1);
        }
        x.colour(0, 1, 2);
        x.colour(0, 0, 4);
        DUE.is("2 times 1 is as much as 1 times 2: the first colour", x.paint(0, 0, 4), 1);
        x.colour(0, 0, 3);
        x.colour(1, 0, 4);
        x.colour(1, 1, 2);
        DUE.is("the second is as dear as the third", x.paint(0, 0, 4), 11);
        x.colour(1, 1, 3);
        DUE.is("one dearer", x.paint(0, 0, 4), 22);
    }

    /** In all CELLS but the GAP: of a CELLAR the wettest are four, so that the gap never matters there. */
    private static void paintBesideTheGap() {
        for (int gap = 0; gap < 12; gap++) {
            PaintedOver cellar = new PaintedOver();
            cellar.house(3, 2);
            DUE.is("cellar at 1", cellar.paint(0, gap, 1), 2);
            DUE.is("cellar at 2", cellar.paint(0, gap, 2), 3);
            DUE.is("cellar at 11", cellar.paint(0, gap, 11), 9);
            DUE.is("cellar at 12", cellar.paint(0, gap, 12), -1);
            PaintedOver damp = new PaintedOver();
            damp.house(1, 2);
            DUE.is("damp at 25", damp.paint(0, gap, 25), 9);
            DUE.is("damp at 26", damp.paint(0, gap, 26), -1);
            DUE.is("damp, dry", damp.paint(0, gap, 0), 1);
        }
        PaintedOver x = oneHouse();
        DUE.is("gap -1", x.paint(0, -1, 0), -16);
        DUE.is("gap 12", x.paint(0, 12, 0), -16);
        DUE.is("d -1", x.paint(0, 0, -1), -16);
        DUE.is("d 100", x.paint(0, 0, 100), -16);
        DUE.is("gap 0, d 99", x.paint(0, 0, 99), -1);
        DUE.is("gap 11, d 0", x.paint(0, 11, 0), 1);
    }

    private static void paintOfNone() {
        PaintedOver x = oneHouse();
        DUE.is("81 by no colour", x.paint(0, 0, 81), -1);
        x.colour(3, 0, 9);
        DUE.is("81 by one", x.paint(0, 0, 81), 39);
        DUE.is("82 by none", x.paint(0, 0, 82), -1);
        for (int c = 0; c < 6; c++) {
            x.colour(c, 0, 0);
        }
        DUE.is("1 by none that hides", x.paint(0, 0, 1), -1);
        DUE.is("dry by any", x.paint(0, 0, 0), 1);
        DUE.is("no refusals", Due.refusals(x), 0);
        PaintedOver south = new PaintedOver();
        south.house(4, 0);
        south.colour(3, 0, 9);
        DUE.is("south: 72", south.paint(0, 0, 72), 39);
        DUE.is("south: 73", south.paint(0, 0, 73), -1);
        DUE.is("south: colours that hide 3", south.paint(0, 0, 2), 1);
    }

    private static void paintOnSevenAndEight() {
        PaintedOver x = oneHouse();
        for (int n = 0; n < 7; n++) {
            x.coat(0, 0, 0, 9, 0);
        }
        DUE.is("on seven coats", x.paint(0, 0, 0), 1);
        x.coat(0, 0, 0, 9, 0);
        DUE.is("on eight", x.paint(0, 0, 0), -17);
        DUE.is("on eight, none that would do", x.paint(0, 0, 99), -17);
        DUE.is("wrong ahead of it", x.paint(0, 12, 0), -16);
        x.hail(99);
        DUE.is("on eight that lie nowhere", x.paint(0, 0, 0), -17);
        DUE.is("refusals", Due.refusals(x), 1_03L);
        x.coat(0, 0, 0, 1, 0);
        DUE.is("none is painted", x.houseOf(0, 2), 8);
    }

    /** "Whose DEEP is least, of several the first". */
    private static void gapOfSeveralTheFirst() {
        for (int cell = 0; cell < 12; cell++) {
            PaintedOver x = oneHouse();
            DUE.is("no coats: the first", x.gap(0, 3), 0);
            x.coat(0, 3, 0, 1, cell);
            DUE.is("where the tenant isn't seen", x.gap(0, 3), cell);
            DUE.is("of another: the least deep", x.gap(0, 4), cell);
            x.scratch(0, 11 - cell);
            DUE.is("of two as deep: the first", x.gap(0, 3), Math.min(cell, 11 - cell));
            x.coat(0, 4, 0, 1, (cell + 1) % 12);
            DUE.is("the other tenant is seen in all but one", x.gap(0, 4), (cell + 1) % 12);
        }
        PaintedOver x = oneHouse();
        x.coat(0, 0, 0, 9, 8);
        x.coat(0, 1, 0, 1, 4);
        DUE.is("deeper, but the only ones", x.gap(0, 1), 4);
        DUE.is("less deep", x.gap(0, 0), 8);
        DUE.is("seen by neither", x.gap(0, 7), 8);
        x.colour(0, 0, 0);
        DUE.is("of no strength is seen dry", x.gap(0, 1), 4);
    }

    private static void gapOfNone() {
        PaintedOver x = oneHouse();
        x.coat(0, 5, 0, 1, 0);
        x.coat(0, 5, 0, 1, 1);
        DUE.is("seen in all cells", x.gap(0, 5), -1);
        DUE.is("another isn't", x.gap(0, 4), 0);
        x.scratch(0, 7);
        DUE.is("one's own beneath it", x.gap(0, 5), -1);
        x.scratch(0, 7);
        DUE.is("a cell without coats counts", x.gap(0, 5), 7);
        DUE.is("no refusals", Due.refusals(x), 0);
    }

    private static void lived() {
        PaintedOver x = oneHouse();
        int bits = 0;
        DUE.is("none", x.houseOf(0, 4), 0);
        int[] tenants = {0, 7, 7, 3, 0, 1, 7, 2};
        for (int tenant : tenants) {
            x.coat(0, tenant, 0, 1, 0);
            bits |= 1 << tenant;
            DUE.is("lived there", x.houseOf(0, 4), bits);
        }
        x.hail(99);
        DUE.is("coats that lie nowhere are on it", x.houseOf(0, 4), 143);
        x.coat(0, 4, 0, 1, 0);
        DUE.is("not by a refused coat", x.houseOf(0, 4), 143);
        PaintedOver y = oneHouse();
        y.coat(0, 6, 0, 9, 0);
        y.ask(0, 1);
        y.falls();
        DUE.is("not behind a fall", y.houseOf(0, 4), 0);
        DUE.is("nor by moves", y.moves(6, 0), 0);
    }

    private static void moves() {
        PaintedOver x = new PaintedOver();
        DUE.is("no houses", x.moves(0, 0), 0);
        DUE.is("no coats", x.moves(7, 1), 0);
        for (int house = 0; house < 6; house++) {
            x.house(house, 0);
            x.coat(house, house, 0, 1, 0);
            x.coat(house, 7, 0, 1, 0);
            x.coat(house, 7, 0, 1, 0);
            DUE.is("houses of 7", x.moves(7, 0), (2 << house) - 1);
            DUE.is("coats of 7", x.moves(7, 1), 2 * house + 2);
            DUE.is("house of one", x.moves(house, 0), 1 << house);
            DUE.is("coat of one", x.moves(house, 1), 1);
        }
        DUE.is("of none", x.moves(6, 0) + x.moves(6, 1), 0);
        DUE.is("no refusals", Due.refusals(x), 0);
    }

    /** "The YEAR in which it was painted; 0 at first, YEARS go on in truth". */
    private static void dates() {
        PaintedOver x = oneHouse();
        x.house(0, 0);
        x.ask(0, 999);
        x.seed(2);
        x.coat(1, 0, 0, 9, 0);
        DUE.is("0 at first", x.coatOf(1, 0, 4), 0);
        x.years(1);
        x.coat(1, 0, 0, 9, 0);
        int mine = x.houseOf(1, 2) - 1;
        DUE.is("1 behind a year", x.coatOf(1, mine, 4), 1);
        DUE.is("the first keeps its own", x.coatOf(1, 0, 4), 0);
        x.image();
        x.years(40);
        DUE.is("41", x.status(4), 41);
        x.restore();
        DUE.is("the image's year", x.status(4), 1);
        x.coat(0, 0, 0, 9, 0);
        DUE.is("painted in it", x.coatOf(0, x.houseOf(0, 2) - 1, 4), 1);
    }

    /** All elements of a byte: two tenants, one over another. */
    private static void pairsThatMayBe() {
        PaintedOver x = new PaintedOver();
        x.row(0, 2, 1);
        for (int pair = -20; pair <= 140; pair++) {
            x.set(0, 0, pair);
            boolean mayBe = pair >= 0 && pair <= 77 && pair % 10 <= 7 && pair % 11 != 0;
            DUE.is("pair " + pair, x.orders(0, 1, -1), mayBe ? 1 : -6);
            DUE.is("pair " + pair + " forged", x.forged(0, 1), mayBe ? -1 : -16);
        }
        int[] wild = {Integer.MIN_VALUE, Integer.MIN_VALUE + 10, -10, 1000, 1010, 65546, Integer.MAX_VALUE};
        for (int pair : wild) {
            x.set(0, 0, pair);
            DUE.is("pair " + pair, x.orders(0, 1, -1), -6);
        }
    }

    /** Orders by trying all, of those named, in the order of their numbers. */
    private static List<int[]> allOrders(long[] pairs) {
        List<int[]> fit = new ArrayList<>();
        int named = 0;
        for (long pair : pairs) {
            named |= 1 << pair / 10 | 1 << pair % 10;
        }
        addOrders(pairs, named, new int[Integer.bitCount(named)], 0, fit);
        return fit;
    }

    private static void addOrders(long[] pairs, int left, int[] order, int n, List<int[]> fit) {
        if (n == order.length) {
            if (isFit(pairs, order)) {
                fit.add(order.clone());
            }
            return;
        }
        for (int tenant = 0; tenant < 8; tenant++) {
            if ((left >> tenant & 1) != 0) {
                order[n] = tenant;
                addOrders(pairs, left & ~(1 << tenant), order, n + 1, fit);
            }
        }
    }

    private static boolean isFit(long[] pairs, int[] order) {
        int[] place = new int[8];
        for (int n = 0; n < order.length; n++) {
            place[order[n]] = n;
        }
        for (long pair : pairs) {
            if (place[(int) pair / 10] <= place[(int) pair % 10]) {
                return false;
            }
        }
        return true;
    }

    private static void ordersAre(long[] pairs) {
        List<int[]> due = allOrders(pairs);
        PaintedOver x = new PaintedOver();
        Due.row(x, 0, 1, pairs);
        String name = java.util.Arrays.toString(pairs);
        DUE.is("orders of " + name, x.orders(0, pairs.length, -1), due.size());
        int[] first = due.isEmpty() ? new int[0] : due.get(0);
        for (int i = 0; i < first.length; i++) {
            DUE.is("TENANT " + i + " of " + name, x.orders(0, pairs.length, i), first[i]);
        }
        DUE.is("one too great of " + name, x.orders(0, pairs.length, first.length), -5);
        DUE.is("MAX of " + name, x.orders(0, pairs.length, Integer.MAX_VALUE), -5);
        int forged = -1;
        for (int n = pairs.length; n >= 1; n--) {
            forged = allOrders(java.util.Arrays.copyOf(pairs, n)).isEmpty() ? n - 1 : forged;
        }
        DUE.is("forged of " + name, x.forged(0, pairs.length), forged);
    }

    /** Pairs drawn from a seed, few and many. */
    private static void ordersOfAllPairs() {
        java.util.Random random = new java.util.Random(5);
        for (int n = 0; n <= 20; n++) {
            for (int run = 0; run < (n < 8 ? 12 : 4); run++) {
                int tenants = 2 + random.nextInt(n < 8 ? 7 : 6);
                long[] pairs = new long[n];
                for (int k = 0; k < n; k++) {
                    int one = random.nextInt(tenants);
                    int other = (one + 1 + random.nextInt(tenants - 1)) % tenants;
                    boolean turned = one < other && random.nextInt(2 * n) != 0;
                    pairs[k] = turned ? 10 * other + one : 10 * one + other;
                }
                ordersAre(pairs);
            }
        }
    }

    private static void ordersBehindEachOther() {
        PaintedOver x = new PaintedOver();
        Due.row(x, 0, 0, 10, 21, 2);
        DUE.is("0 without any", x.orders(0, 3, -1), 0);
        DUE.is("no refusal", Due.refusals(x), 0);
        DUE.is("no TENANT of it", x.orders(0, 3, 0), -5);
        DUE.is("nor a great one", x.orders(0, 3, 9), -5);
        DUE.is("two of them fit", x.orders(0, 2, -1), 1);
        DUE.is("their last", x.orders(0, 2, 2), 2);
        DUE.is("one of them", x.orders(0, 1, 1), 1);
        DUE.is("none of them", x.orders(0, 0, -1), 1);
        DUE.is("refusals", Due.refusals(x), 2_00_00L);
    }

    /** "An i below NONE is -5 ahead of -6; an i too great, and no order, are -5 behind it." */
    private static void placesOfTheFirst() {
        PaintedOver x = new PaintedOver();
        x.row(0, 0, 21);
        x.set(0, 0, 76);
        DUE.is("NONE", x.orders(0, 1, -1), 1);
        DUE.is("0", x.orders(0, 1, 0), 6);
        DUE.is("1", x.orders(0, 1, 1), 7);
        DUE.is("2", x.orders(0, 1, 2), -5);
        DUE.is("-2", x.orders(0, 1, -2), -5);
        DUE.is("MIN", x.orders(0, 1, Integer.MIN_VALUE), -5);
        DUE.is("refusals", Due.refusals(x), 3_00_00L);
        DUE.is("-2 ahead of elements that may not be", x.orders(0, 2, -2), -5);
        DUE.is("-2 ahead of n above 20", x.orders(0, 21, -2), -5);
        DUE.is("2 behind elements that may not be", x.orders(0, 2, 2), -6);
        DUE.is("8 behind n above 20", x.orders(0, 21, 8), -6);
        DUE.is("fewer elements ahead of all these", x.orders(0, 22, 8), -5);
        DUE.is("refusals", Due.refusals(x), 6_02_00L);
    }

    /** "The first pair by which, with those ahead of it, no order fits; NONE." */
    private static void forgedByTheFirst() {
        for (int at = 0; at < 20; at++) {
            long[] pairs = new long[20];
            for (int k = 0; k < 20; k++) {
                pairs[k] = k % 2 == 0 ? 70 : 71;
            }
            pairs[at] = at % 2 == 0 ? 7 : 17;
            PaintedOver x = new PaintedOver();
            Due.row(x, 0, 0, pairs);
            int due = at >= 2 ? at : at == 0 ? 2 : 3;
            DUE.is("forged with the other at " + at, x.forged(0, 20), due);
            DUE.is("of those ahead", x.forged(0, due), -1);
            DUE.is("with it", x.forged(0, due + 1), due);
        }
    }

    private static void laneLeastAndGreatest() {
        PaintedOver x = oneHouse();
        x.house(0, 0);
        DUE.is("40 at first", x.lane(0, 1), 40);
        DUE.is("WIDE 99", x.ask(1, 99), 40);
        DUE.is("the widest", x.lane(0, 1), 99);
        DUE.is("WIDE 100", x.ask(1, 100), -6);
        DUE.is("WIDE 10", x.ask(1, 10), 99);
        DUE.is("the narrowest of bare ones", x.lane(1, 0), 10);
        DUE.is("WIDE 9", x.ask(1, 9), -6);
        x.coat(0, 0, 0, 9, 0);
        x.coat(1, 0, 0, 1, 0);
        DUE.is("none left", x.lane(0, 1), 0);
        x.coat(1, 0, 0, 1, 1);
        DUE.is("below 0 is no refusal", x.lane(0, 1), -1);
        DUE.is("the other way", x.lane(1, 0), -1);
        x.coat(0, 0, 0, 5, 0);
        DUE.is("-6 is no refusal", x.lane(0, 1), -6);
        DUE.is("refusals", Due.refusals(x), 2_00L);
        DUE.is("of itself", x.lane(0, 0), -1006);
        DUE.is("of none", x.lane(0, 2), -1001);
        DUE.is("of none to itself", x.lane(2, 2), -1001);
        DUE.is("refusals", Due.refusals(x), 2_00_00_00_00_03_00L);
    }

    private static void priceEachOnce() {
        PaintedOver x = oneHouse();
        x.colour(0, 1, 99);
        x.colour(5, 1, 50);
        DUE.is("no coats", x.price(0, 0), 0);
        x.coat(0, 0, 0, 1, 0);
        DUE.is("one in eleven cells", x.price(0, 0), 99);
        x.coat(0, 0, 0, 2, 1);
        DUE.is("two of one colour", x.price(0, 0), 99);
        x.coat(0, 0, 5, 3, 2);
        DUE.is("both colours", x.price(0, 0), 149);
        DUE.is("at 6", x.price(0, 6), 149);
        DUE.is("at 7: the third alone", x.price(0, 7), 50);
        DUE.is("at 9", x.price(0, 9), 50);
        DUE.is("at 10: the wall", x.price(0, 10), 0);
        DUE.is("at 99", x.price(0, 99), 0);
        DUE.is("at 100", x.price(0, 100), -6);
        DUE.is("at -1", x.price(0, -1), -6);
    }
}
