/**
 * Painted over by the next: a street in which each house front is a picture, and whoever moves in
 * paints another over the last, all but one hand's breadth. ../shared/DOC.md says what each call answers.
 *
 * <p>All that a call needs is made in the constructor and used again, so that no call makes anything.
 */
public final class PaintedOver {
    public static final int NONE = -1;

    // The refusals: the call answers the number below 0.
    private static final int NOBODY = 1;
    private static final int OTHER = 2;
    private static final int NOTHING = 3;
    private static final int BELOW = 4;
    private static final int BEYOND = 5;
    private static final int WRONG = 6;
    private static final int ROOM = 7;

    // Calls whose plain answers may be below 0 tell their refusals that much further down.
    private static final int TEN_DOWN = 10;
    private static final int THOUSAND_DOWN = 1000;

    private static final int SHELVES = 8;
    private static final int SORTS = 4;
    private static final int LONGEST_ROW = 160;
    private static final int ROW_MARK = 100;

    private static final int MOST_HOUSES = 6;
    private static final int MOST_COATS = 8;
    private static final int CELLS = 12;
    private static final int COLUMNS = 4;
    private static final int KINDS = 7;
    private static final int COLOURS = 6;
    private static final int TENANTS = 8;
    private static final int MOST_A = 9;
    private static final int MOST_THICK = 9;
    private static final int MOST_HIDES = 9;
    private static final int MOST_COSTS = 99;
    private static final int MOST_LIMIT = 999;
    private static final int LEAST_WIDE = 10;
    private static final int MOST_WIDE = 99;
    private static final int WEATHERS = 100;
    private static final int HAILS = 100;
    private static final int MOST_YEARS = 40;
    private static final int YEARLY_HAILS = 8;
    private static final int MOST_PAIRS = 20;
    private static final int KEPT_BODIES = 20;

    private static final int HOUSE = 0;
    private static final int DAMP = 1;
    private static final int LIMED = 2;
    private static final int CELLAR = 3;
    private static final int SOUTH = 4;
    private static final int TILED = 5;
    private static final int BARE = 6;

    // What a shelf holds, as holds() tells it: NONE, a house's number, or ROW_MARK and the sort of a row.
    private final int[] held = new int[SHELVES];
    private final int[] sizes = new int[SHELVES];
    private final long[][] elements = new long[SHELVES][LONGEST_ROW];
    private final int[] refusals = new int[ROOM + 1];

    // Of the pairs told to orders() and forged(): who is named (bits), and who must lie beneath each (bits).
    private int named = 0;
    private final int[] beneath = new int[TENANTS];
    private final int[] ways = new int[1 << TENANTS];

    private Town now;
    private Town draft;
    private final Town kept;
    private boolean isKept = false;
    private final Reader reader = new Reader();
    private int latestFault = NONE;
    private final Trace latest = new Trace();

    public PaintedOver() {
        for (int s = 0; s < SHELVES; s++) {
            held[s] = NONE;
        }
        Kind[] kinds = new Kind[KINDS];
        kinds[HOUSE] = new Kind();
        kinds[DAMP] = new Damp();
        kinds[LIMED] = new Limed();
        kinds[CELLAR] = new Cellar();
        kinds[SOUTH] = new South();
        kinds[TILED] = new Tiled();
        kinds[BARE] = new Bare();
        now = new Town(kinds);
        draft = new Town(kinds);
        kept = new Town(kinds);
    }

    // ==== Shelves

    public int row(int s, int sort, int n) {
        if (outside(s, SHELVES)) {
            return refuse(NOBODY);
        }
        if (n < 0) {
            return refuse(BELOW);
        }
        if (outside(sort, SORTS)) {
            return refuse(WRONG);
        }
        if (n > LONGEST_ROW) {
            return refuse(ROOM);
        }
        held[s] = ROW_MARK + sort;
        sizes[s] = n;
        for (int i = 0; i < n; i++) {
            elements[s][i] = 0;
        }
        return 1;
    }

    public int set(int s, int i, long v) {
        int trouble = rowTrouble(s);
        if (trouble != 0) {
            return refuse(trouble);
        }
        if (outside(i, sizes[s])) {
            return refuse(BEYOND);
        }
        elements[s][i] = lowestBits(held[s] - ROW_MARK, v);
        return 1;
    }

    public int copy(int p, int q, int i, int j, int n) {
        if (outside(p, SHELVES) || outside(q, SHELVES)) {
            return refuse(NOBODY);
        }
        if (holdsHouse(p) || holdsHouse(q) || holdsRow(p) && holdsRow(q) && held[p] != held[q]) {
            return refuse(OTHER);
        }
        if (!holdsRow(p) || !holdsRow(q)) {
            return refuse(NOTHING);
        }
        if (n < 0) {
            return refuse(BELOW);
        }
        if (noSuchPart(p, i, n) || noSuchPart(q, j, n)) {
            return refuse(BEYOND);
        }
        System.arraycopy(elements[p], i, elements[q], j, n);
        return 1;
    }

    public long element(int s, int i) {
        if (rowTrouble(s) != 0 || outside(i, sizes[s])) {
            return 0;
        }
        return elements[s][i];
    }

    public int show(int s, int house) {
        if (outside(s, SHELVES) || house != NONE && noHouse(house)) {
            return refuse(NOBODY);
        }
        held[s] = house;
        return house == NONE ? 0 : 1;
    }

    public int holds(int s) {
        return outside(s, SHELVES) ? NONE : held[s];
    }

    public int says(int s, int kind) {
        if (outside(s, SHELVES) || outside(kind, KINDS)) {
            return refuse(NOBODY);
        }
        if (holdsRow(s)) {
            return refuse(OTHER);
        }
        if (!holdsHouse(s)) {
            return refuse(NOTHING);
        }
        Front front = now.fronts[held[s]];
        if (!isOf(front.kind, kind)) {
            return refuse(OTHER);
        }
        return saidBy(front, kind);
    }

    // ==== Houses, colours, coats

    public int house(int kind, int a) {
        if (outside(kind, KINDS)) {
            return refuse(NOBODY);
        }
        if (a < 0 || a > MOST_A) {
            return refuse(WRONG);
        }
        if (now.houses >= MOST_HOUSES) {
            return refuse(ROOM);
        }
        return now.build(kind, a);
    }

    public int houseOf(int house, int what) {
        if (noHouse(house)) {
            return refuse(BEYOND);
        }
        Front front = now.fronts[house];
        switch (what) {
            case 0:
                return front.kindNumber;
            case 1:
                return front.a;
            case 2:
                return front.coats;
            case 3:
                return front.wholeSkin();
            case 4:
                return front.lived();
            default:
                return refuse(BEYOND);
        }
    }

    public int colour(int colour, int what, int v) {
        if (outside(colour, COLOURS)) {
            return refuse(NOBODY);
        }
        if (what != 0 && what != 1) {
            return refuse(BEYOND);
        }
        if (v < 0 || v > (what == 0 ? MOST_HIDES : MOST_COSTS)) {
            return refuse(WRONG);
        }
        int[] told = what == 0 ? now.hides : now.costs;
        int was = told[colour];
        told[colour] = v;
        return was;
    }

    public int ask(int what, int v) {
        if (what == 0 && v >= 1 && v <= MOST_LIMIT) {
            int was = now.limit;
            now.limit = v;
            return was;
        }
        if (what == 1 && v >= LEAST_WIDE && v <= MOST_WIDE) {
            int was = now.wide;
            now.wide = v;
            return was;
        }
        return refuse(WRONG);
    }

    public int coat(int house, int tenant, int colour, int thick, int gap) {
        if (noHouse(house) || outside(tenant, TENANTS) || outside(colour, COLOURS)) {
            return refuse(NOBODY);
        }
        if (thick < 1 || thick > MOST_THICK || outside(gap, CELLS)) {
            return refuse(WRONG);
        }
        Front front = now.fronts[house];
        if (front.coats >= MOST_COATS) {
            return refuse(ROOM);
        }
        return front.putOn(tenant, colour, thick, gap, now.year);
    }

    public int coatOf(int house, int coat, int what) {
        if (noHouse(house) || noCoat(house, coat)) {
            return refuse(BEYOND);
        }
        Front front = now.fronts[house];
        switch (what) {
            case 0:
                return front.tenant[coat];
            case 1:
                return front.colour[coat];
            case 2:
                return front.thick[coat];
            case 3:
                return front.gap[coat];
            case 4:
                return front.year[coat];
            case 5:
                return now.strength(front, front.colour[coat], front.thick[coat]);
            case 6:
                return front.cellsOf(coat);
            default:
                return refuse(BEYOND);
        }
    }

    // ==== Streets from texts

    public int street(int s) {
        int trouble = rowTrouble(s);
        if (trouble != 0) {
            return refuse(trouble);
        }
        draft.become(now);
        int items = reader.readAll(draft, elements[s], sizes[s]);
        latestFault = reader.fault;
        if (latestFault != NONE) {
            return refuse(WRONG);
        }
        Town before = now;
        now = draft;
        draft = before;
        return items;
    }

    public int fault() {
        return latestFault;
    }

    // ==== What is seen

    public int seen(int house, int cell, int d) {
        if (noHouse(house)) {
            return refuseDown(NOBODY, TEN_DOWN);
        }
        if (outside(cell, CELLS)) {
            return refuseDown(BEYOND, TEN_DOWN);
        }
        if (outside(d, WEATHERS)) {
            return refuseDown(WRONG, TEN_DOWN);
        }
        Front front = now.fronts[house];
        return now.seenAmong(front, front.lyingIn(cell), cell, d);
    }

    public int wet(int house, int cell, int d) {
        if (noHouse(house)) {
            return refuse(NOBODY);
        }
        if (outside(cell, CELLS)) {
            return refuse(BEYOND);
        }
        if (outside(d, WEATHERS)) {
            return refuse(WRONG);
        }
        return now.fronts[house].wetness(cell, d);
    }

    public int deep(int house, int cell) {
        if (noHouse(house)) {
            return refuse(NOBODY);
        }
        if (outside(cell, CELLS)) {
            return refuse(BEYOND);
        }
        return now.fronts[house].depth(cell);
    }

    public int skin(int house) {
        if (noHouse(house)) {
            return refuse(NOBODY);
        }
        return now.fronts[house].wholeSkin();
    }

    public int hailed(int house, int cell, int h) {
        if (noHouse(house)) {
            return refuse(NOBODY);
        }
        if (outside(cell, CELLS)) {
            return refuse(BEYOND);
        }
        if (outside(h, HAILS)) {
            return refuse(WRONG);
        }
        return now.fronts[house].behindHail(cell, h);
    }

    public int razor(int house, int coat, int what) {
        if (noHouse(house) || noCoat(house, coat)) {
            return refuseDown(NOBODY, TEN_DOWN);
        }
        if (what != 0 && what != 1) {
            return refuseDown(BEYOND, TEN_DOWN);
        }
        Front front = now.fronts[house];
        int best = NONE;
        int least = NONE;
        for (int cell = 0; cell < CELLS; cell++) {
            if (front.lies(coat, cell)) {
                int above = front.depthFrom(coat + 1, cell);
                if (best == NONE || above < least) {
                    best = cell;
                    least = above;
                }
            }
        }
        return what == 0 ? best : least;
    }

    public int hidden(int house, int d) {
        if (noHouse(house)) {
            return refuse(NOBODY);
        }
        if (outside(d, WEATHERS)) {
            return refuse(WRONG);
        }
        Front front = now.fronts[house];
        return (1 << front.coats) - 1 & ~now.seenSomewhere(front, d);
    }

    public int shown(int house, int h) {
        if (noHouse(house)) {
            return refuse(NOBODY);
        }
        if (outside(h, HAILS)) {
            return refuse(WRONG);
        }
        Front front = now.fronts[house];
        int behind = 0;
        for (int cell = 0; cell < CELLS; cell++) {
            int coat = now.seenAmong(front, front.behindHail(cell, h), cell, 0);
            if (coat != NONE) {
                behind |= 1 << coat;
            }
        }
        return behind & ~now.seenSomewhere(front, 0);
    }

    public int firstWet(int house, int coat) {
        if (noHouse(house) || noCoat(house, coat)) {
            return refuseDown(NOBODY, TEN_DOWN);
        }
        Front front = now.fronts[house];
        for (int d = 0; d < WEATHERS; d++) {
            if ((now.seenSomewhere(front, d) >> coat & 1) != 0) {
                return d;
            }
        }
        return NONE;
    }

    // ==== What comes of it

    public int paint(int house, int gap, int d) {
        if (noHouse(house)) {
            return refuseDown(NOBODY, TEN_DOWN);
        }
        if (outside(gap, CELLS) || outside(d, WEATHERS)) {
            return refuseDown(WRONG, TEN_DOWN);
        }
        Front front = now.fronts[house];
        if (front.coats >= MOST_COATS) {
            return refuseDown(ROOM, TEN_DOWN);
        }
        return cheapest(front, front.wettestBut(gap, d));
    }

    public int gap(int house, int tenant) {
        if (noHouse(house) || outside(tenant, TENANTS)) {
            return refuseDown(NOBODY, TEN_DOWN);
        }
        Front front = now.fronts[house];
        int best = NONE;
        int least = 0;
        for (int cell = 0; cell < CELLS; cell++) {
            int coat = now.seenAmong(front, front.lyingIn(cell), cell, 0);
            if (coat == NONE || front.tenant[coat] != tenant) {
                int depth = front.depth(cell);
                if (best == NONE || depth < least) {
                    best = cell;
                    least = depth;
                }
            }
        }
        return best;
    }

    public int moves(int tenant, int what) {
        if (outside(tenant, TENANTS)) {
            return refuse(NOBODY);
        }
        if (what != 0 && what != 1) {
            return refuse(BEYOND);
        }
        int bits = 0;
        int coats = 0;
        for (int house = 0; house < now.houses; house++) {
            int theirs = now.fronts[house].coatsOf(tenant);
            coats += theirs;
            if (theirs > 0) {
                bits |= 1 << house;
            }
        }
        return what == 0 ? bits : coats;
    }

    public int orders(int s, int n, int i) {
        int trouble = pairsTrouble(s, n, i < NONE);
        if (trouble != 0) {
            return refuse(trouble);
        }
        forgetPairs();
        for (int k = 0; k < n; k++) {
            addPair((int) elements[s][k]);
        }
        if (i == NONE) {
            return countOrders();
        }
        if (i >= Integer.bitCount(named) || !orderFits()) {
            return refuse(BEYOND);
        }
        return inFirstOrder(i);
    }

    public int forged(int s, int n) {
        int trouble = pairsTrouble(s, n, false);
        if (trouble != 0) {
            return refuseDown(trouble, TEN_DOWN);
        }
        forgetPairs();
        for (int k = 0; k < n; k++) {
            addPair((int) elements[s][k]);
            if (!orderFits()) {
                return k;
            }
        }
        return NONE;
    }

    public int lane(int house, int other) {
        if (noHouse(house) || noHouse(other)) {
            return refuseDown(NOBODY, THOUSAND_DOWN);
        }
        if (house == other) {
            return refuseDown(WRONG, THOUSAND_DOWN);
        }
        return now.wide - now.fronts[house].greatestDepth() - now.fronts[other].greatestDepth();
    }

    public int price(int house, int d) {
        if (noHouse(house)) {
            return refuse(NOBODY);
        }
        if (outside(d, WEATHERS)) {
            return refuse(WRONG);
        }
        Front front = now.fronts[house];
        int seenBits = now.seenSomewhere(front, d);
        int coloursSeen = 0;
        for (int coat = 0; coat < front.coats; coat++) {
            if ((seenBits >> coat & 1) != 0) {
                coloursSeen |= 1 << front.colour[coat];
            }
        }
        int sum = 0;
        for (int c = 0; c < COLOURS; c++) {
            if ((coloursSeen >> c & 1) != 0) {
                sum += now.costs[c];
            }
        }
        return sum;
    }

    // ==== In truth

    public int hail(int h) {
        if (outside(h, HAILS)) {
            return refuse(WRONG);
        }
        return now.hailOnAll(h);
    }

    public int scratch(int house, int cell) {
        if (noHouse(house)) {
            return refuse(NOBODY);
        }
        if (outside(cell, CELLS)) {
            return refuse(BEYOND);
        }
        Front front = now.fronts[house];
        if (front.lyingIn(cell) == 0) {
            return refuse(WRONG);
        }
        return front.takeUppermost(cell);
    }

    public int falls() {
        return now.letFall();
    }

    public int years(int n) {
        if (now.houses == 0) {
            return refuse(BEYOND);
        }
        if (n < 1 || n > MOST_YEARS) {
            return refuse(WRONG);
        }
        int before = now.fallen;
        for (int i = 0; i < n; i++) {
            now.passYear();
        }
        return now.fallen - before;
    }

    public int seed(int v) {
        int was = now.seed;
        now.seed = v;
        return was;
    }

    // ==== Acts

    public int act(int house, int act, int x) {
        latest.ran = 0;
        if (noHouse(house)) {
            return 0;
        }
        Front front = now.fronts[house];
        latest.m = house;
        latest.k = front.a;
        switch (act) {
            case 0:
                return front.kind.actPaints(latest, x);
            case 1:
                return front.kind.actPeels(latest, x);
            case 2:
                return front.kind.actFalls(latest, x);
            default:
                return 0;
        }
    }

    public int trace(int i) {
        if (outside(i, latest.ran) || i >= KEPT_BODIES) {
            return NONE;
        }
        return latest.bodies[i];
    }

    // ==== The image

    public int image() {
        kept.become(now);
        isKept = true;
        return now.houses;
    }

    public int restore() {
        if (!isKept) {
            return refuse(WRONG);
        }
        now.become(kept);
        for (int s = 0; s < SHELVES; s++) {
            if (holdsHouse(s) && noHouse(held[s])) {
                held[s] = NONE;
            }
        }
        return now.houses;
    }

    public int status(int what) {
        if (what > TEN_DOWN && what <= TEN_DOWN + ROOM) {
            return refusals[what - TEN_DOWN];
        }
        switch (what) {
            case 0:
                return now.houses;
            case 1:
                return now.coatsInAll();
            case 2:
                return now.limit;
            case 3:
                return now.wide;
            case 4:
                return now.year;
            case 5:
                return now.fallen;
            case 6:
                return now.seed;
            case 7:
                return latest.ran;
            default:
                return NONE;
        }
    }

    // ==== Refusals, and what they ask

    private int refuse(int refusal) {
        return refuseDown(refusal, 0);
    }

    private int refuseDown(int refusal, int down) {
        refusals[refusal]++;
        return -refusal - down;
    }

    private static boolean outside(int i, int size) {
        return i < 0 || i >= size;
    }

    private boolean noHouse(int house) {
        return outside(house, now.houses);
    }

    private boolean noCoat(int house, int coat) {
        return outside(coat, now.fronts[house].coats);
    }

    private boolean holdsRow(int s) {
        return held[s] >= ROW_MARK;
    }

    private boolean holdsHouse(int s) {
        return held[s] != NONE && held[s] < ROW_MARK;
    }

    /** Why shelf s holds no row: the refusal, or 0 if it holds one. */
    private int rowTrouble(int s) {
        if (outside(s, SHELVES)) {
            return NOBODY;
        }
        if (holdsHouse(s)) {
            return OTHER;
        }
        return holdsRow(s) ? 0 : NOTHING;
    }

    private boolean noSuchPart(int s, int from, int n) {
        // from + n could wrap, so the other way about
        return from < 0 || n > sizes[s] || from > sizes[s] - n;
    }

    private static long lowestBits(int sort, long v) {
        switch (sort) {
            case 0:
                return (byte) v;
            case 1:
                return (short) v;
            case 2:
                return (int) v;
            default:
                return v;
        }
    }

    // ==== What a house says for a kind

    private static boolean isOf(Kind kind, int wanted) {
        switch (wanted) {
            case DAMP:
                return kind instanceof Damp;
            case LIMED:
                return kind instanceof Limed;
            case CELLAR:
                return kind instanceof Cellar;
            case SOUTH:
                return kind instanceof South;
            case TILED:
                return kind instanceof Tiled;
            case BARE:
                return kind instanceof Bare;
            default:
                return true;
        }
    }

    private int saidBy(Front front, int kind) {
        switch (kind) {
            case DAMP:
                return front.wetness(0, 10);
            case LIMED:
                return front.hardness(0, 10);
            case CELLAR:
                return front.wetness(8, 10);
            case SOUTH:
                return strengthOfHighest(front);
            case TILED:
                return front.hardness(4, 10);
            case BARE:
                return front.a;
            default:
                return front.wholeSkin();
        }
    }

    private int strengthOfHighest(Front front) {
        int highest = front.coats - 1;
        return highest < 0 ? 0 : now.strength(front, front.colour[highest], front.thick[highest]);
    }

    /** 10 times the colour and the thickness of the cheapest coat that is seen at that wetness; NONE. */
    private int cheapest(Front front, int wetness) {
        int best = NONE;
        int least = 0;
        for (int c = 0; c < COLOURS; c++) {
            for (int thick = 1; thick <= MOST_THICK; thick++) {
                int cost = now.costs[c] * thick;
                if (now.strength(front, c, thick) >= wetness && (best == NONE || cost < least)) {
                    best = 10 * c + thick;
                    least = cost;
                }
            }
        }
        return best;
    }

    // ==== Orders of tenants

    /** Why the first n elements of shelf s are no pairs: the refusal, or 0 if they are. */
    private int pairsTrouble(int s, int n, boolean noSuchPlace) {
        int trouble = rowTrouble(s);
        if (trouble != 0) {
            return trouble;
        }
        if (n < 0) {
            return BELOW;
        }
        if (n > sizes[s] || noSuchPlace) {
            return BEYOND;
        }
        if (n > MOST_PAIRS) {
            return WRONG;
        }
        for (int k = 0; k < n; k++) {
            if (!isPair((int) elements[s][k])) {
                return WRONG;
            }
        }
        return 0;
    }

    private static boolean isPair(int pair) {
        return pair >= 0 && pair / 10 < TENANTS && pair % 10 < TENANTS && pair / 10 != pair % 10;
    }

    private void forgetPairs() {
        named = 0;
        for (int tenant = 0; tenant < TENANTS; tenant++) {
            beneath[tenant] = 0;
        }
    }

    private void addPair(int pair) {
        if (isPair(pair)) {
            named |= 1 << pair / 10 | 1 << pair % 10;
            beneath[pair / 10] |= 1 << pair % 10;
        }
    }

    private boolean mayComeOn(int tenant, int placed) {
        return (named & ~placed & 1 << tenant) != 0 && (beneath[tenant] & ~placed) == 0;
    }

    /** The lowest tenant named that may come on those placed (bits); NONE. */
    private int lowestOn(int placed) {
        for (int tenant = 0; tenant < TENANTS; tenant++) {
            if (mayComeOn(tenant, placed)) {
                return tenant;
            }
        }
        return NONE;
    }

    private boolean orderFits() {
        int placed = 0;
        for (int k = 0; k < TENANTS; k++) {
            int tenant = lowestOn(placed);
            if (tenant != NONE) {
                placed |= 1 << tenant;
            }
        }
        return placed == named;
    }

    private int inFirstOrder(int i) {
        int placed = 0;
        int tenant = NONE;
        for (int k = 0; k <= i; k++) {
            tenant = lowestOn(placed);
            if (tenant == NONE) {
                return NONE;
            }
            placed |= 1 << tenant;
        }
        return tenant;
    }

    private int countOrders() {
        for (int placed = 0; placed < ways.length; placed++) {
            ways[placed] = 0;
        }
        ways[0] = 1;
        for (int placed = 0; placed < ways.length; placed++) {
            for (int tenant = 0; tenant < TENANTS; tenant++) {
                if (ways[placed] > 0 && mayComeOn(tenant, placed)) {
                    ways[placed | 1 << tenant] += ways[placed];
                }
            }
        }
        return ways[named];
    }

    /** The bodies that ran in the latest act, with the house's number m and its a, k. */
    private static final class Trace {
        int m = 0;
        int k = 0;
        int ran = 0;
        final int[] bodies = new int[KEPT_BODIES];

        void begin(int body) {
            if (ran < KEPT_BODIES) {
                bodies[ran] = body;
            }
            ran++;
        }
    }

    /** The kind of a plain house, and what the kinds under it change. It holds nothing itself. */
    private static class Kind {
        int wetness(int a, int cell, int d) {
            return d;
        }

        int hardness(int a, int cell, int h) {
            return h;
        }

        int counted(int hides) {
            return hides;
        }

        int actPaints(Trace trace, int x) {
            trace.begin(10);
            return x + trace.m;
        }

        int actPeels(Trace trace, int x) {
            trace.begin(11);
            return actPaints(trace, x) * 2;
        }

        int actFalls(Trace trace, int x) {
            trace.begin(12);
            return actPeels(trace, x) ^ actPaints(trace, x - trace.k);
        }
    }

    private static class Damp extends Kind {
        int wetness(int a, int cell, int d) {
            return d > 0 ? d + a : d;
        }

        int actPaints(Trace trace, int x) {
            trace.begin(20);
            return super.actPaints(trace, x) + trace.k;
        }
    }

    private static class Limed extends Kind {
        int hardness(int a, int cell, int h) {
            return h > a ? h - a : 0;
        }

        int actPeels(Trace trace, int x) {
            trace.begin(30);
            return super.actPeels(trace, x) * 3;
        }
    }

    private static final class Cellar extends Damp {
        int wetness(int a, int cell, int d) {
            int wetness = super.wetness(a, cell, d);
            return cell / COLUMNS == 2 ? 2 * wetness : wetness;
        }

        int actPeels(Trace trace, int x) {
            trace.begin(40);
            return super.actPeels(trace, x + 1);
        }
    }

    private static final class South extends Kind {
        int counted(int hides) {
            return hides > 0 ? hides - 1 : 0;
        }

        int actFalls(Trace trace, int x) {
            trace.begin(50);
            return -super.actFalls(trace, x);
        }

        int actPaints(Trace trace, int x) {
            trace.begin(51);
            return super.actPaints(trace, x) - trace.m;
        }
    }

    private static final class Tiled extends Limed {
        int hardness(int a, int cell, int h) {
            return cell / COLUMNS == 0 ? 0 : super.hardness(a, cell, h);
        }

        int actFalls(Trace trace, int x) {
            trace.begin(60);
            return super.actFalls(trace, x) ^ 5;
        }
    }

    private static final class Bare extends Limed {
        int hardness(int a, int cell, int h) {
            return 2 * super.hardness(a, cell, h);
        }

        int actPaints(Trace trace, int x) {
            trace.begin(70);
            return super.actPaints(trace, x) * 2;
        }

        int actPeels(Trace trace, int x) {
            trace.begin(71);
            return super.actPeels(trace, x - trace.k);
        }
    }

    /** The front of a house: its coats, the lowest first, and which of them are gone from which cell. */
    private static final class Front {
        Kind kind;
        int kindNumber = HOUSE;
        int a = 0;
        int coats = 0;
        final int[] tenant = new int[MOST_COATS];
        final int[] colour = new int[MOST_COATS];
        final int[] thick = new int[MOST_COATS];
        final int[] gap = new int[MOST_COATS];
        final int[] year = new int[MOST_COATS];
        private final int[] gone = new int[CELLS];

        Front(Kind kind) {
            this.kind = kind;
        }

        void become(Front other) {
            kind = other.kind;
            kindNumber = other.kindNumber;
            a = other.a;
            coats = other.coats;
            System.arraycopy(other.tenant, 0, tenant, 0, MOST_COATS);
            System.arraycopy(other.colour, 0, colour, 0, MOST_COATS);
            System.arraycopy(other.thick, 0, thick, 0, MOST_COATS);
            System.arraycopy(other.gap, 0, gap, 0, MOST_COATS);
            System.arraycopy(other.year, 0, year, 0, MOST_COATS);
            System.arraycopy(other.gone, 0, gone, 0, CELLS);
        }

        void clear() {
            coats = 0;
            for (int cell = 0; cell < CELLS; cell++) {
                gone[cell] = 0;
            }
        }

        /** The place of the coat that came on top; NONE if there is no room. */
        int putOn(int byTenant, int inColour, int howThick, int leftOut, int inYear) {
            if (coats >= MOST_COATS) {
                return NONE;
            }
            int place = coats;
            tenant[place] = byTenant;
            colour[place] = inColour;
            thick[place] = howThick;
            gap[place] = leftOut;
            year[place] = inYear;
            coats++;
            return place;
        }

        boolean lies(int coat, int cell) {
            return gap[coat] != cell && (gone[cell] >> coat & 1) == 0;
        }

        int lyingIn(int cell) {
            int bits = 0;
            for (int coat = 0; coat < coats; coat++) {
                if (lies(coat, cell)) {
                    bits |= 1 << coat;
                }
            }
            return bits;
        }

        int cellsOf(int coat) {
            int bits = 0;
            for (int cell = 0; cell < CELLS; cell++) {
                if (lies(coat, cell)) {
                    bits |= 1 << cell;
                }
            }
            return bits;
        }

        /** The thickness of all that lies in a cell, from a coat on upwards. */
        int depthFrom(int lowest, int cell) {
            int sum = 0;
            for (int coat = lowest; coat < coats; coat++) {
                if (lies(coat, cell)) {
                    sum += thick[coat];
                }
            }
            return sum;
        }

        int depth(int cell) {
            return depthFrom(0, cell);
        }

        int greatestDepth() {
            int greatest = 0;
            for (int cell = 0; cell < CELLS; cell++) {
                greatest = Math.max(greatest, depth(cell));
            }
            return greatest;
        }

        int wholeSkin() {
            int sum = 0;
            for (int cell = 0; cell < CELLS; cell++) {
                sum += depth(cell);
            }
            return sum;
        }

        int lived() {
            int bits = 0;
            for (int coat = 0; coat < coats; coat++) {
                bits |= 1 << tenant[coat];
            }
            return bits;
        }

        int coatsOf(int wanted) {
            int count = 0;
            for (int coat = 0; coat < coats; coat++) {
                if (tenant[coat] == wanted) {
                    count++;
                }
            }
            return count;
        }

        int wetness(int cell, int d) {
            return kind.wetness(a, cell, d);
        }

        int hardness(int cell, int h) {
            return kind.hardness(a, cell, h);
        }

        int wettestBut(int leftOut, int d) {
            int wettest = 0;
            for (int cell = 0; cell < CELLS; cell++) {
                if (cell != leftOut) {
                    wettest = Math.max(wettest, wetness(cell, d));
                }
            }
            return wettest;
        }

        /** What would lie in a cell behind hail of h (bits). */
        int behindHail(int cell, int h) {
            int hard = kind.hardness(a, cell, h);
            int bits = lyingIn(cell);
            for (int coat = coats - 1; coat >= 0; coat--) {
                if ((bits >> coat & 1) != 0) {
                    if (thick[coat] > hard) {
                        return bits;
                    }
                    hard -= thick[coat];
                    bits &= ~(1 << coat);
                }
            }
            return bits;
        }

        int hailInTruth(int cell, int h) {
            int went = lyingIn(cell) & ~behindHail(cell, h);
            gone[cell] |= went;
            return Integer.bitCount(went);
        }

        /** The uppermost coat that lies in a cell goes: which; NONE if nothing lies there. */
        int takeUppermost(int cell) {
            for (int coat = coats - 1; coat >= 0; coat--) {
                if (lies(coat, cell)) {
                    gone[cell] |= 1 << coat;
                    return coat;
                }
            }
            return NONE;
        }
    }

    /** All that an image takes: houses, colours, limits, years and the seed. */
    private static final class Town {
        private final Kind[] kinds;
        final Front[] fronts = new Front[MOST_HOUSES];
        int houses = 0;
        final int[] hides = new int[COLOURS];
        final int[] costs = new int[COLOURS];
        int limit = 300;
        int wide = 40;
        int year = 0;
        int fallen = 0;
        int seed = 1;

        Town(Kind[] kinds) {
            this.kinds = kinds;
            for (int house = 0; house < MOST_HOUSES; house++) {
                fronts[house] = new Front(kinds[HOUSE]);
            }
            for (int c = 0; c < COLOURS; c++) {
                hides[c] = 3;
                costs[c] = 1;
            }
        }

        void become(Town other) {
            houses = other.houses;
            for (int house = 0; house < houses; house++) {
                fronts[house].become(other.fronts[house]);
            }
            System.arraycopy(other.hides, 0, hides, 0, COLOURS);
            System.arraycopy(other.costs, 0, costs, 0, COLOURS);
            limit = other.limit;
            wide = other.wide;
            year = other.year;
            fallen = other.fallen;
            seed = other.seed;
        }

        /** The number of a new house; NONE if there is no room. */
        int build(int kind, int a) {
            if (houses >= MOST_HOUSES || outside(kind, KINDS)) {
                return NONE;
            }
            Front front = fronts[houses];
            front.clear();
            front.kind = kinds[kind];
            front.kindNumber = kind;
            front.a = a;
            houses++;
            return houses - 1;
        }

        int coatsInAll() {
            int sum = 0;
            for (int house = 0; house < houses; house++) {
                sum += fronts[house].coats;
            }
            return sum;
        }

        int strength(Front front, int colour, int thick) {
            return front.kind.counted(hides[colour]) * thick;
        }

        /** Of those coats (bits) the uppermost that is seen in a cell in weather d; NONE: the wall. */
        int seenAmong(Front front, int bits, int cell, int d) {
            int wetness = front.wetness(cell, d);
            for (int coat = front.coats - 1; coat >= 0; coat--) {
                boolean lies = (bits >> coat & 1) != 0;
                if (lies && strength(front, front.colour[coat], front.thick[coat]) >= wetness) {
                    return coat;
                }
            }
            return NONE;
        }

        int seenSomewhere(Front front, int d) {
            int bits = 0;
            for (int cell = 0; cell < CELLS; cell++) {
                int coat = seenAmong(front, front.lyingIn(cell), cell, d);
                if (coat != NONE) {
                    bits |= 1 << coat;
                }
            }
            return bits;
        }

        int hailOnAll(int h) {
            int went = 0;
            for (int house = 0; house < houses; house++) {
                for (int cell = 0; cell < CELLS; cell++) {
                    went += fronts[house].hailInTruth(cell, h);
                }
            }
            return went;
        }

        /** The houses (bits) whose skins fell. */
        int letFall() {
            int bits = 0;
            for (int house = 0; house < houses; house++) {
                if (fronts[house].wholeSkin() > limit) {
                    fronts[house].clear();
                    bits |= 1 << house;
                    fallen++;
                }
            }
            return bits;
        }

        private int draw(int below) {
            seed = seed * 1103515245 + 12345;
            return below > 0 ? (seed >>> 16) % below : 0;
        }

        void passYear() {
            int house = draw(houses);
            int tenant = draw(TENANTS);
            int colour = draw(COLOURS);
            int thick = draw(MOST_THICK) + 1;
            int gap = draw(CELLS);
            if (house < houses) {
                fronts[house].putOn(tenant, colour, thick, gap, year);
            }
            hailOnAll(draw(YEARLY_HAILS));
            letFall();
            year++;
        }
    }

    /** Reads a street's text and tells it over a town, item by item, until the first fault. */
    private static final class Reader {
        private static final int WORDS = 6;

        private Town town;
        private long[] row;
        private int size = 0;
        private int at = 0;
        private int numberAt = 0;
        int fault = NONE;

        /** How many items were read; behind a fault the town is of no use. */
        int readAll(Town told, long[] letters, int n) {
            town = told;
            row = letters;
            size = n;
            at = 0;
            fault = NONE;
            int items = 0;
            boolean more = true;
            while (more && items <= size) {
                readItem();
                items++;
                more = fault == NONE && at < size && stands(';');
            }
            return items;
        }

        private void readItem() {
            int wordAt = at;
            switch (readWord()) {
                case 0:
                    readHouse(wordAt);
                    break;
                case 1:
                    readCoat();
                    break;
                case 2:
                    readColour(town.hides, MOST_HIDES);
                    break;
                case 3:
                    readColour(town.costs, MOST_COSTS);
                    break;
                case 4:
                    int h = readNumber(0, HAILS - 1);
                    if (fault == NONE) {
                        town.hailOnAll(h);
                    }
                    break;
                case 5:
                    readScratch();
                    break;
                default:
                    break;
            }
        }

        private static String word(int w) {
            switch (w) {
                case 0:
                    return "house";
                case 1:
                    return "coat";
                case 2:
                    return "hides";
                case 3:
                    return "costs";
                case 4:
                    return "hail";
                default:
                    return "scratch";
            }
        }

        /** The word that stands here; NONE: the fault lies where no word goes on as the row does. */
        private int readWord() {
            int furthest = 0;
            for (int w = 0; w < WORDS; w++) {
                int same = sameLetters(word(w));
                if (same == word(w).length()) {
                    at += same;
                    return w;
                }
                furthest = Math.max(furthest, same);
            }
            fault = at + furthest;
            return NONE;
        }

        private int sameLetters(String word) {
            for (int i = 0; i < word.length(); i++) {
                if (elementAt(at + i) != word.charAt(i)) {
                    return i;
                }
            }
            return word.length();
        }

        private void readHouse(int wordAt) {
            if (town.houses >= MOST_HOUSES) {
                fault = wordAt;
            }
            int kind = readNumber(0, KINDS - 1);
            int a = readNumber(0, MOST_A);
            if (fault == NONE) {
                town.build(kind, a);
            }
        }

        private void readCoat() {
            int house = readNumber(0, town.houses - 1);
            if (fault == NONE && town.fronts[house].coats >= MOST_COATS) {
                fault = numberAt;
            }
            int tenant = readNumber(0, TENANTS - 1);
            int colour = readNumber(0, COLOURS - 1);
            int thick = readNumber(1, MOST_THICK);
            int gap = readNumber(0, CELLS - 1);
            if (fault == NONE) {
                town.fronts[house].putOn(tenant, colour, thick, gap, town.year);
            }
        }

        private void readColour(int[] told, int most) {
            int colour = readNumber(0, COLOURS - 1);
            int v = readNumber(0, most);
            if (fault == NONE) {
                told[colour] = v;
            }
        }

        private void readScratch() {
            int house = readNumber(0, town.houses - 1);
            int cell = readNumber(0, CELLS - 1);
            if (fault == NONE && town.fronts[house].takeUppermost(cell) == NONE) {
                fault = numberAt;
            }
        }

        /** A blank and a number; NONE behind a fault. */
        private int readNumber(int least, int most) {
            if (!stands(' ')) {
                return NONE;
            }
            numberAt = at;
            if (!isDigit(at)) {
                fault = at;
                return NONE;
            }
            int number = elementAt(at) - '0';
            at++;
            if (isDigit(at)) {
                number = 10 * number + elementAt(at) - '0';
                at++;
            }
            if (number < least || number > most) {
                fault = numberAt;
                return NONE;
            }
            return number;
        }

        /** Goes on over a letter; without it, here is the fault, if there was none yet. */
        private boolean stands(int letter) {
            if (fault != NONE) {
                return false;
            }
            if (elementAt(at) != letter) {
                fault = at;
                return false;
            }
            at++;
            return true;
        }

        private boolean isDigit(int place) {
            int element = elementAt(place);
            return element >= '0' && element <= '9';
        }

        /** An element as an int; NONE, which is no letter, behind the row's end. */
        private int elementAt(int place) {
            return place >= 0 && place < size ? (int) row[place] : NONE;
        }
    }
}
