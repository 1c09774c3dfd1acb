import java.util.Random;

/** Long runs of calls with any arguments: none throws, none counts two refusals, and answers agree with one another. */
public final class RelationsTest {
    private static final Due DUE = new Due("RelationsTest");
    private static final int CALLS = 512;
    private static final int ITEMS = 20;
    private static final int[] WILD = {Integer.MIN_VALUE, -1000, -2, -1, 100, 160, 161, 1000, 1 << 30, Integer.MAX_VALUE};

    private static Random random = new Random(0);
    private static String text = "";
    private static int items = 0;

    public static void main(String[] args) {
        for (int run = 0; run < 400; run++) {
            random = new Random(run);
            anyCalls(run);
        }
        for (int run = 0; run < 400; run++) {
            textsAndCalls(run);
            imageAndYears(run);
            for (int house = 0; house < told(run).status(0); house++) {
                seenAgrees(told(run), house, run % 100, "run " + run + ", house " + house);
            }
            hailAgrees(told(run), run % 15, "run " + run);
        }
        DUE.end();
    }

    private static int any(int below) {
        if (random.nextInt(12) == 0) {
            return WILD[random.nextInt(WILD.length)];
        }
        return random.nextInt(below + 2) - 1;
    }

    /** Fills an object with any calls, and looks at the refusals of the last few. */
    private static void anyCalls(int run) {
        PaintedOver x = new PaintedOver();
        String latest = "";
        try {
            for (int n = 0; n < CALLS - 100; n++) {
                int which = random.nextInt(48);
                latest = "call " + which + " of run " + run;
                if (which < 41) {
                    anyCall(x, which);
                } else if (n < CALLS - 140) {
                    furnish(x);
                    n += 2;
                }
            }
            for (int n = 0; n < 6; n++) {
                int which = random.nextInt(41);
                latest = "call " + which + " at the end of run " + run;
                long before = refusalsInAll(x);
                long answer = anyCall(x, which);
                long more = refusalsInAll(x) - before;
                DUE.is("refusals of " + latest, more == 0 || more == 1 && answer < 0 ? 1 : 0, 1);
            }
        } catch (RuntimeException e) {
            DUE.is(latest + " threw " + e, 1, 0);
        }
    }

    private static long refusalsInAll(PaintedOver x) {
        long sum = 0;
        for (int what = 11; what <= 17; what++) {
            sum += x.status(what);
        }
        return sum;
    }

    private static void furnish(PaintedOver x) {
        x.house(random.nextInt(7), random.nextInt(10));
        if (x.status(0) > 0) {
            x.coat(random.nextInt(x.status(0)), random.nextInt(8), random.nextInt(6), 1 + random.nextInt(9), random.nextInt(12));
        }
    }

    private static long anyCall(PaintedOver x, int which) {
        return which < 20 ? anyOfTheFirst(x, which) : anyOfTheRest(x, which);
    }

    private static long anyOfTheFirst(PaintedOver x, int which) {
        switch (which) {
            case 0: return x.row(any(8), any(4), any(160));
            case 1: return x.set(any(8), any(160), random.nextBoolean() ? random.nextInt(80) : random.nextLong());
            case 2: return x.copy(any(8), any(8), any(20), any(20), any(20));
            case 3: return x.element(any(8), any(160));
            case 4: return x.show(any(8), any(6));
            case 5: return x.holds(any(8));
            case 6: return x.says(any(8), any(7));
            case 7: return x.house(any(7), any(10));
            case 8: return x.houseOf(any(6), any(5));
            case 9: return x.colour(any(6), any(2), any(10));
            case 10: return x.ask(any(2), any(200));
            case 11: return x.coat(any(6), any(8), any(6), any(10), any(12));
            case 12: return x.coatOf(any(6), any(8), any(7));
            case 13: return x.street(any(8));
            case 14: return x.fault();
            case 15: return x.seen(any(6), any(12), any(100));
            case 16: return x.wet(any(6), any(12), any(100));
            case 17: return x.deep(any(6), any(12));
            case 18: return x.skin(any(6));
            default: return x.hailed(any(6), any(12), any(100));
        }
    }

    private static long anyOfTheRest(PaintedOver x, int which) {
        switch (which) {
            case 20: return x.razor(any(6), any(8), any(2));
            case 21: return x.hidden(any(6), any(100));
            case 22: return x.shown(any(6), any(100));
            case 23: return x.firstWet(any(6), any(8));
            case 24: return x.paint(any(6), any(12), any(100));
            case 25: return x.gap(any(6), any(8));
            case 26: return x.moves(any(8), any(2));
            case 27: return x.orders(any(8), any(21), any(9));
            case 28: return x.forged(any(8), any(21));
            case 29: return x.lane(any(6), any(6));
            case 30: return x.price(any(6), any(100));
            case 31: return x.hail(any(12));
            case 32: return x.scratch(any(6), any(12));
            case 33: return x.falls();
            case 34: return x.years(any(41));
            case 35: return x.seed(random.nextInt());
            case 36: return x.act(any(6), any(3), random.nextInt());
            case 37: return x.trace(any(21));
            case 38: return x.image();
            case 39: return x.restore();
            default: return x.status(any(20));
        }
    }

    /** An object on which some items of a street were done by calls; the text tells the same. */
    private static PaintedOver told(int run) {
        PaintedOver x = new PaintedOver();
        random = new Random(run);
        text = "";
        items = 0;
        for (int n = 0; n < ITEMS; n++) {
            String item = anyItem(x, n < 2);
            if (!item.isEmpty()) {
                text += (items == 0 ? "" : ";") + item;
                items++;
            }
        }
        return x;
    }

    /** Does something by a call, and tells the item that would do it; an empty text if it was refused. */
    private static String anyItem(PaintedOver x, boolean isHouse) {
        int a = random.nextInt(10);
        int h = random.nextInt(2);
        int c = random.nextInt(6);
        int cell = random.nextInt(12);
        int tenant = random.nextInt(8);
        switch (isHouse ? 0 : random.nextInt(12)) {
            case 0:
                return x.house(c + h, a) < 0 ? "" : "house " + (c + h) + " " + a;
            case 1:
                return x.colour(c, 0, a) < 0 ? "" : "hides " + c + " " + a;
            case 2:
                return x.colour(c, 1, cell) < 0 ? "" : "costs 0" + c + " " + cell;
            case 3:
                return x.hail(c) < 0 ? "" : "hail " + c;
            case 4:
                return x.scratch(h, cell) < 0 ? "" : "scratch " + h + " " + cell;
            default:
                return x.coat(h, tenant, c, a, cell) < 0 ? "" : "coat " + h + " " + tenant + " " + c + " " + a + " " + cell;
        }
    }

    /** A text is longer than a row may be, so it is told in two. */
    private static void textsAndCalls(int run) {
        long due = look(told(run));
        int half = text.indexOf(';', text.length() / 2);
        PaintedOver x = new PaintedOver();
        if (half < 0) {
            DUE.is("items of run " + run, Due.street(x, text), items);
        } else {
            DUE.is("items of run " + run, Due.street(x, text.substring(0, half)) + Due.street(x, text.substring(half + 1)), items);
        }
        DUE.is("text and calls of run " + run, look(x), due);
    }

    private static void imageAndYears(int run) {
        long due = look(told(run));
        PaintedOver x = told(run);
        x.image();
        x.years(1 + run % 40);
        x.restore();
        DUE.is("restored in run " + run, look(x), due);
    }

    /** A number made of all that can be asked of houses, coats and colours. */
    private static long look(PaintedOver x) {
        long look = 7;
        for (int what = 0; what < 7; what++) {
            look = 31 * look + x.status(what);
        }
        for (int house = 0; house < x.status(0); house++) {
            for (int what = 0; what < 5; what++) {
                look = 31 * look + x.houseOf(house, what);
            }
            int coats = x.houseOf(house, 2);
            for (int coat = 0; coat < coats; coat++) {
                for (int what = 0; what < 7; what++) {
                    look = 31 * look + x.coatOf(house, coat, what);
                }
            }
            look = 31 * look + x.price(house, 0);
        }
        return look;
    }

    /** Of each cell of a house the coats (bits) that lie there. */
    private static int[] lying(PaintedOver x, int house) {
        int[] bits = new int[12];
        int coats = x.houseOf(house, 2);
        for (int coat = 0; coat < coats; coat++) {
            int cells = x.coatOf(house, coat, 6);
            for (int cell = 0; cell < 12; cell++) {
                bits[cell] |= (cells >> cell & 1) << coat;
            }
        }
        return bits;
    }

    private static void seenAgrees(PaintedOver x, int house, int d, String where) {
        int coats = x.houseOf(house, 2);
        int[] lying = lying(x, house);
        int[] thick = new int[coats];
        int[] strength = new int[coats];
        for (int coat = 0; coat < coats; coat++) {
            thick[coat] = x.coatOf(house, coat, 2);
            strength[coat] = x.coatOf(house, coat, 5);
        }
        int skin = 0;
        int seen = 0;
        int deepest = 0;
        for (int cell = 0; cell < 12; cell++) {
            int wet = x.wet(house, cell, d);
            int deep = 0;
            int uppermost = -1;
            for (int coat = 0; coat < coats; coat++) {
                if ((lying[cell] >> coat & 1) != 0) {
                    deep += thick[coat];
                    uppermost = strength[coat] >= wet ? coat : uppermost;
                }
            }
            DUE.is("deep, " + where, x.deep(house, cell), deep);
            DUE.is("seen, " + where, x.seen(house, cell, d), uppermost);
            DUE.is("hailed by none, " + where, x.hailed(house, cell, 0), lying[cell]);
            seen |= uppermost < 0 ? 0 : 1 << uppermost;
            skin += deep;
            deepest = Math.max(deepest, deep);
        }
        DUE.is("skin, " + where, x.skin(house), skin);
        DUE.is("hidden, " + where, x.hidden(house, d), (1 << coats) - 1 & ~seen);
        int bare = x.house(0, 0);
        if (bare >= 0) {
            DUE.is("lane, " + where, x.lane(house, bare), 40 - deepest);
        }
        firstWetAgrees(x, house, coats, where);
    }

    private static void firstWetAgrees(PaintedOver x, int house, int coats, String where) {
        int[] first = new int[coats];
        java.util.Arrays.fill(first, -1);
        for (int d = 99; d >= 0; d--) {
            int hidden = x.hidden(house, d);
            for (int coat = 0; coat < coats; coat++) {
                first[coat] = (hidden >> coat & 1) == 0 ? d : first[coat];
            }
        }
        for (int coat = 0; coat < coats; coat++) {
            DUE.is("first wet, " + where, x.firstWet(house, coat), first[coat]);
        }
    }

    private static void hailAgrees(PaintedOver x, int h, String where) {
        int houses = Math.min(3, x.status(0));
        int went = 0;
        int[][] left = new int[houses][12];
        int[] shown = new int[houses];
        int[] hidden = new int[houses];
        for (int house = 0; house < x.status(0); house++) {
            int[] lying = lying(x, house);
            for (int cell = 0; cell < 12; cell++) {
                int behind = x.hailed(house, cell, h);
                went += Integer.bitCount(lying[cell] & ~behind);
                if (house < houses) {
                    left[house][cell] = behind;
                }
            }
        }
        for (int house = 0; house < houses; house++) {
            shown[house] = x.shown(house, h);
            hidden[house] = x.hidden(house, 0);
        }
        DUE.is("hail, " + where, x.hail(h), went);
        for (int house = 0; house < houses; house++) {
            int[] lying = lying(x, house);
            for (int cell = 0; cell < 12; cell++) {
                DUE.is("lying behind hail, " + where, lying[cell], left[house][cell]);
            }
            DUE.is("shown by hail, " + where, shown[house], hidden[house] & ~x.hidden(house, 0));
        }
    }
}
