/** The sentences on what is done in truth, on acts, on the image and on the status, at their edges. */
public final class TruthEdgesTest {
    private static final Due DUE = new Due("TruthEdgesTest");
    private static final int MIN = Integer.MIN_VALUE;
    private static final int MAX = Integer.MAX_VALUE;

    public static void main(String[] args) {
        hailLeastAndGreatest();
        hailOnAllHouses();
        scratchOfEachCell();
        fallsOfEachHouse();
        yearsLeastAndGreatest();
        yearOfOneAndOfSixHouses();
        yearOnAFullHouse();
        hailAheadOfFalls();
        yearHailBelowEight();
        fallenInThisCall();
        yearAsItIsThen();
        actsLeastAndGreatest();
        traceFirstAndLast();
        latestActAlone();
        imageOfAll();
        imageOfWhatIsNotInIt();
        shelvesBehindARestore();
        statusLeastAndGreatest();
        refusalsByNumber();
        lastOf512Calls();
        DUE.end();
    }

    private static PaintedOver houses(int n) {
        PaintedOver x = new PaintedOver();
        for (int house = 0; house < n; house++) {
            x.house(0, 0);
        }
        return x;
    }

    private static void hailLeastAndGreatest() {
        PaintedOver x = houses(1);
        x.coat(0, 0, 0, 9, 0);
        DUE.is("hail -1", x.hail(-1), -6);
        DUE.is("hail 100", x.hail(100), -6);
        DUE.is("hail MIN", x.hail(MIN), -6);
        DUE.is("hail MAX", x.hail(MAX), -6);
        DUE.is("none went by these", x.skin(0), 99);
        DUE.is("hail 0", x.hail(0), 0);
        DUE.is("hail 8", x.hail(8), 0);
        DUE.is("hail 9", x.hail(9), 11);
        x.coat(0, 0, 0, 9, 0);
        DUE.is("hail 99", x.hail(99), 11);
        DUE.is("refusals", Due.refusals(x), 4_00L);
    }

    /** "HAIL counts each CELL": on each house, of each kind by its own HARD. */
    private static void hailOnAllHouses() {
        PaintedOver x = new PaintedOver();
        int[] kinds = {0, 1, 2, 4, 5, 6};
        for (int n = 0; n < 6; n++) {
            x.house(kinds[n], 2);
            x.coat(n, 0, 0, 3, 11);
            x.coat(n, 0, 0, 1, 0);
        }
        DUE.is("by 2: of LIMED, TILED, BARE none", x.hail(2), 3 * 11);
        DUE.is("by 3: of LIMED, TILED 1, of BARE 2", x.hail(3), 3 * 11 + 11 + 8 + 11);
        DUE.is("by 4: of BARE 4", x.hail(4), 11);
        DUE.is("by 5: of LIMED 3, of TILED 3", x.hail(5), 11 + 7);
        DUE.is("by 99: row 0 of TILED keeps all", x.hail(99), 0);
        DUE.is("row 0 of TILED", x.skin(4), 4 * 3 + 3);
    }

    private static void scratchOfEachCell() {
        for (int cell = 0; cell < 12; cell++) {
            PaintedOver x = houses(2);
            x.coat(1, 0, 0, 1, (cell + 1) % 12);
            x.coat(1, 0, 0, 1, cell);
            DUE.is("in the upper one's gap", x.scratch(1, cell), 0);
            DUE.is("nothing there", x.scratch(1, cell), -6);
            DUE.is("in the lower one's gap", x.scratch(1, (cell + 1) % 12), 1);
            DUE.is("nothing there either", x.scratch(1, (cell + 1) % 12), -6);
            DUE.is("the upper one's cells", x.coatOf(1, 1, 6), 0xFFF & ~(1 << cell) & ~(1 << (cell + 1) % 12));
            DUE.is("on another house", x.scratch(0, cell), -6);
            DUE.is("skin", x.skin(1), 20);
            DUE.is("refusals", Due.refusals(x), 3_00L);
        }
        PaintedOver x = houses(1);
        x.coat(0, 0, 0, 1, 0);
        DUE.is("cell -1", x.scratch(0, -1), -5);
        DUE.is("cell 12", x.scratch(0, 12), -5);
        DUE.is("house -1", x.scratch(-1, 12), -1);
        DUE.is("house 1", x.scratch(1, -1), -1);
    }

    private static void fallsOfEachHouse() {
        for (int fallen = 0; fallen < 64; fallen++) {
            PaintedOver x = houses(6);
            x.ask(0, 11);
            for (int house = 0; house < 6; house++) {
                x.coat(house, 0, 0, 1 + (fallen >> house & 1), 0);
            }
            DUE.is("houses", x.falls(), fallen);
            DUE.is("skins", x.status(5), Integer.bitCount(fallen));
            DUE.is("coats", x.status(1), 6 - Integer.bitCount(fallen));
            DUE.is("no more", x.falls(), 0);
            DUE.is("skins still", x.status(5), Integer.bitCount(fallen));
        }
    }

    private static void yearsLeastAndGreatest() {
        PaintedOver x = houses(1);
        int[] none = {MIN, -1, 0, 41, MAX};
        for (int n : none) {
            DUE.is("years " + n, x.years(n), -6);
        }
        DUE.is("no year", x.status(4), 0);
        DUE.is("no draw", x.status(6), 1);
        DUE.is("refusals", Due.refusals(x), 5_00L);
        DUE.is("one", x.years(1) >= 0 ? 1 : 0, 1);
        DUE.is("one year", x.status(4), 1);
        DUE.is("forty", x.years(40) >= 0 ? 1 : 0, 1);
        DUE.is("41 years", x.status(4), 41);
    }

    /** A DRAW below how many houses there are: of one always house 0; of six, all six by and by. */
    private static void yearOfOneAndOfSixHouses() {
        int drawn = 0;
        for (int seed = 0; seed < 40; seed++) {
            PaintedOver one = houses(1);
            one.seed(seed * 7919);
            one.years(1);
            DUE.is("the only house", one.houseOf(0, 2), 1);
            PaintedOver six = houses(6);
            six.seed(seed * 7919);
            six.years(1);
            DUE.is("one of six", six.status(1), 1);
            for (int house = 0; house < 6; house++) {
                drawn |= six.houseOf(house, 2) << house;
            }
        }
        DUE.is("all houses are drawn", drawn, 63);
    }

    /** "If there are 8 COATS on it, none; the DRAWS are made": a seventh coat leaves room. */
    private static void yearOnAFullHouse() {
        for (int coats = 6; coats <= 8; coats++) {
            PaintedOver x = houses(1);
            x.ask(0, 999);
            for (int n = 0; n < coats; n++) {
                x.coat(0, 0, 0, 9, 0);
            }
            x.seed(5);
            x.years(1);
            PaintedOver y = houses(1);
            y.seed(5);
            y.years(1);
            DUE.is("coats", x.houseOf(0, 2), Math.min(8, coats + 1));
            DUE.is("seed", x.status(6), y.status(6));
            DUE.is("year", x.status(4), 1);
            DUE.is("no refusal", Due.refusals(x), 0);
        }
    }

    /** Seed 7: thick 4, hail 5: the coat is gone from all cells ahead of the falls, and others are less. */
    private static void hailAheadOfFalls() {
        PaintedOver x = houses(2);
        x.ask(0, 10);
        x.coat(0, 0, 0, 5, 0);
        x.coat(1, 0, 0, 5, 0);
        x.seed(7);
        DUE.is("none falls that hail took", x.years(1), 1);
        PaintedOver y = houses(1);
        y.seed(7);
        y.years(1);
        DUE.is("thick 4", y.coatOf(0, 0, 2), 4);
        DUE.is("gone by 5", y.skin(0), 0);
        DUE.is("still there", y.status(1), 1);
    }

    private static void yearHailBelowEight() {
        int greatest = 0;
        for (int seed = 0; seed < 60; seed++) {
            PaintedOver x = houses(1);
            for (int n = 0; n < 8; n++) {
                x.coat(0, 0, 0, 1, 11);
            }
            x.ask(0, 999);
            x.seed(seed * 104729);
            x.years(1);
            greatest = Math.max(greatest, 8 - x.deep(0, 0));
        }
        DUE.is("the greatest hail of a year", greatest, 7);
    }

    private static void fallenInThisCall() {
        PaintedOver x = houses(2);
        x.ask(0, 1);
        x.coat(0, 0, 0, 9, 0);
        x.coat(1, 0, 0, 9, 0);
        DUE.is("fell by falls()", x.falls(), 3);
        int before = x.status(5);
        DUE.is("counted", before, 2);
        int fell = x.years(40);
        DUE.is("fell in 40 years are those of this call", x.status(5), before + fell);
        DUE.is("some fell", fell > 0 ? 1 : 0, 1);
        int more = x.years(40);
        DUE.is("of the next call alone", x.status(5), before + fell + more);
    }

    /** "A COAT has the YEAR as it is then, ahead of its increase." */
    private static void yearAsItIsThen() {
        PaintedOver x = houses(6);
        x.ask(0, 999);
        for (int year = 0; year < 8; year++) {
            int[] before = new int[6];
            for (int house = 0; house < 6; house++) {
                before[house] = x.houseOf(house, 2);
            }
            x.years(1);
            for (int house = 0; house < 6; house++) {
                if (x.houseOf(house, 2) > before[house]) {
                    DUE.is("year of a coat of year " + year, x.coatOf(house, before[house], 4), year);
                }
            }
            DUE.is("the year behind it", x.status(4), year + 1);
        }
        DUE.is("eight coats", x.status(1), 8);
    }

    private static void actsLeastAndGreatest() {
        PaintedOver x = houses(6);
        int[] none = {MIN, -1, 3, MAX};
        for (int act : none) {
            DUE.is("act " + act, x.act(0, act, 5), 0);
            DUE.is("no trace", x.trace(0), -1);
        }
        int[] nobody = {MIN, -1, 6, MAX};
        for (int house : nobody) {
            DUE.is("house " + house, x.act(house, 0, 5), 0);
            DUE.is("no trace", x.trace(0), -1);
        }
        DUE.is("act 0", x.act(0, 0, 5), 5);
        DUE.is("act 1", x.act(0, 1, 5), 10);
        DUE.is("act 2", x.act(0, 2, 5), 15);
        DUE.is("house 5", x.act(5, 0, 5), 10);
        DUE.is("nothing is refused", Due.refusals(x), 0);
    }

    private static void traceFirstAndLast() {
        int[] bodies = {4, 6, 5, 7, 7, 6, 8};
        for (int kind = 0; kind < 7; kind++) {
            PaintedOver x = new PaintedOver();
            x.house(kind, 1);
            x.act(0, 2, 0);
            DUE.is("bodies of kind " + kind, x.status(7), bodies[kind]);
            DUE.is("the first is there", x.trace(0) >= 10 ? 1 : 0, 1);
            DUE.is("the last is 10", x.trace(bodies[kind] - 1), 10);
            DUE.is("none behind it", x.trace(bodies[kind]), -1);
            DUE.is("none -1", x.trace(-1), -1);
            DUE.is("none 19", x.trace(19), -1);
            DUE.is("none 20", x.trace(20), -1);
            DUE.is("none MIN", x.trace(MIN), -1);
            DUE.is("none MAX", x.trace(MAX), -1);
        }
    }

    private static void latestActAlone() {
        PaintedOver x = houses(1);
        for (int n = 0; n < 30; n++) {
            x.act(0, 1, n);
        }
        DUE.is("those of the latest", x.status(7), 2);
        DUE.is("its first", x.trace(0), 11);
        DUE.is("its second", x.trace(1), 10);
        DUE.is("no third", x.trace(2), -1);
        x.hail(9);
        x.years(1);
        x.house(6, 0);
        DUE.is("other calls leave it", x.status(7), 2);
        x.act(1, 0, 0);
        DUE.is("the next", x.trace(0), 70);
        x.act(2, 0, 0);
        DUE.is("of no house none", x.trace(0), -1);
        DUE.is("of no house no bodies", x.status(7), 0);
    }

    /** All but the shelves, the image, refusals, the fault, the trace comes back. */
    private static void imageOfAll() {
        PaintedOver x = Scene.furnished();
        long[] plain = Scene.lookAtTown(Scene.furnished());
        DUE.is("image", x.image(), 6);
        x.hail(99);
        x.colour(0, 0, 9);
        x.colour(0, 1, 9);
        x.colour(5, 0, 0);
        x.colour(5, 1, 0);
        x.ask(0, 1);
        x.ask(1, 10);
        x.years(7);
        x.seed(5);
        x.falls();
        x.coat(3, 3, 3, 3, 3);
        DUE.is("restore", x.restore(), 6);
        DUE.same("all is as it was", Scene.lookAtTown(x), plain);
        x.years(7);
        DUE.is("restore again", x.restore(), 6);
        DUE.same("and again", Scene.lookAtTown(x), plain);
    }

    private static void imageOfWhatIsNotInIt() {
        PaintedOver x = houses(1);
        x.image();
        x.act(0, 1, 1);
        Due.street(x, "hail x");
        x.hail(-1);
        Due.row(x, 0, 0, 5);
        x.show(1, 0);
        x.restore();
        DUE.is("the trace", x.trace(0), 11);
        DUE.is("bodies", x.status(7), 2);
        DUE.is("the fault", x.fault(), 5);
        DUE.is("refusals", Due.refusals(x), 2_00L);
        DUE.is("a row", x.element(0, 0), 5);
        DUE.is("a house", x.holds(1), 0);
        DUE.is("the text", x.holds(7), 100);
        DUE.is("the image stays", x.restore(), 1);
        x.house(0, 0);
        DUE.is("the image anew", x.image(), 2);
        x.house(0, 0);
        DUE.is("is the latest", x.restore(), 2);
    }

    /** "SHELVES with HOUSES hold those of these numbers, or NOTHING". */
    private static void shelvesBehindARestore() {
        for (int kept = 0; kept <= 6; kept++) {
            PaintedOver x = houses(kept);
            x.image();
            for (int house = kept; house < 6; house++) {
                x.house(6, house);
            }
            for (int s = 0; s < 6; s++) {
                x.show(s, s);
            }
            x.row(6, 2, 1);
            DUE.is("restore", x.restore(), kept);
            for (int s = 0; s < 6; s++) {
                DUE.is("shelf " + s + " of " + kept, x.holds(s), s < kept ? s : -1);
                DUE.is("says " + s + " of " + kept, x.says(s, 0), s < kept ? 0 : -3);
            }
            DUE.is("the row", x.holds(6), 102);
            DUE.is("nothing", x.holds(7), -1);
        }
    }

    private static void statusLeastAndGreatest() {
        PaintedOver x = Scene.furnished();
        int[] none = {MIN, -1, 8, 9, 10, 18, 19, 100, MAX};
        for (int what : none) {
            DUE.is("status " + what, x.status(what), -1);
        }
        int[] status = {6, 10, 998, 33, 0, 0, 78, 7};
        for (int what = 0; what < status.length; what++) {
            DUE.is("status " + what, x.status(what), status[what]);
        }
        int[] refusals = {0, 0, 0, 0, 0, 1, 0};
        for (int n = 0; n < refusals.length; n++) {
            DUE.is("refusals -" + (n + 1), x.status(11 + n), refusals[n]);
        }
        DUE.is("seed -1 is no NONE", x.seed(-1), 78);
        DUE.is("seed -1", x.status(6), -1);
    }

    /** Each refusal is counted by its own number, however far down it is told. */
    private static void refusalsByNumber() {
        PaintedOver x = houses(1);
        x.show(1, 0);
        x.row(0, 0, 21);
        for (int n = 0; n < 8; n++) {
            x.coat(0, 0, 0, 1, 0);
        }
        int[] answers = {x.deep(1, 0), x.seen(1, 0, 0), x.lane(0, 1), x.street(1), x.forged(1, 0), x.street(2), x.forged(2, 0),
            x.row(0, 0, -1), x.forged(0, -1), x.deep(0, 12), x.seen(0, 12, 0), x.forged(0, 22), x.hail(100), x.seen(0, 0, 100),
            x.forged(0, 21), x.lane(0, 0), x.coat(0, 0, 0, 1, 0), x.paint(0, 0, 0)};
        int[] due = {-1, -11, -1001, -2, -12, -3, -13, -4, -14, -5, -15, -15, -6, -16, -16, -1006, -7, -17};
        for (int n = 0; n < due.length; n++) {
            DUE.is("refusal " + n, answers[n], due[n]);
        }
        DUE.is("refusals", Due.refusals(x), 3_02_02_02_03_04_02L);
    }

    /** The 512th call answers as any other; refusals go on being counted. */
    private static void lastOf512Calls() {
        PaintedOver x = new PaintedOver();
        for (int n = 0; n < 510; n++) {
            x.skin(0);
        }
        DUE.is("511th", x.status(11), 510);
        DUE.is("512th", x.house(0, 0), 0);
    }
}
