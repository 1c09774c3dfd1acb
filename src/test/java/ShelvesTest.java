/** Promises 1 to 8: a new object, rows, and what shelves hold and say. */
public final class ShelvesTest {
    private static final Due DUE = new Due("ShelvesTest");

    public static void main(String[] args) {
        newObject();
        rows();
        sets();
        sortsKeepLowestBits();
        copies();
        copyRefusals();
        shows();
        says();
        saysByOwnKind();
        saysRefusals();
        DUE.end();
    }

    private static void newObject() {
        PaintedOver x = new PaintedOver();
        DUE.is("NONE", PaintedOver.NONE, -1);
        int[] first = {0, 0, 300, 40, 0, 0, 1, 0};
        for (int what = 0; what < first.length; what++) {
            DUE.is("new status " + what, x.status(what), first[what]);
        }
        DUE.is("new refusals", Due.refusals(x), 0);
        for (int s = -1; s <= 8; s++) {
            DUE.is("new holds " + s, x.holds(s), -1);
            DUE.is("new element " + s, x.element(s, 0), 0);
        }
        DUE.is("new fault", x.fault(), -1);
        DUE.is("new trace", x.trace(0), -1);
        for (int c = 0; c < 6; c++) {
            DUE.is("new hides " + c, x.colour(c, 0, 3), 3);
            DUE.is("new costs " + c, x.colour(c, 1, 1), 1);
        }
        DUE.is("new refusals still", Due.refusals(x), 0);
    }

    private static void rows() {
        PaintedOver x = new PaintedOver();
        for (int sort = 0; sort < 4; sort++) {
            DUE.is("row of sort " + sort, x.row(sort, sort, 2), 1);
            DUE.is("holds sort " + sort, x.holds(sort), 100 + sort);
        }
        DUE.is("empty row", x.row(7, 0, 0), 1);
        DUE.is("empty row has no element", x.set(7, 0, 1), -5);
        DUE.is("longest row", x.row(7, 3, 160), 1);
        DUE.is("last of the longest", x.set(7, 159, 9), 1);
        DUE.is("last of the longest told", x.element(7, 159), 9);
        DUE.is("first of the longest", x.set(7, 0, 8), 1);
        DUE.is("new row anew", x.row(7, 3, 160), 1);
        DUE.is("zero at first", x.element(7, 159), 0);
        DUE.is("element 0 zero at first", x.element(7, 0), 0);
        DUE.is("set", x.set(7, 1, 5), 1);
        DUE.is("row 8", x.row(8, -1, -1), -1);
        DUE.is("row -1", x.row(-1, 0, 1), -1);
        DUE.is("below ahead of sort", x.row(7, 4, -1), -4);
        DUE.is("sort ahead of room", x.row(7, 4, 161), -6);
        DUE.is("sort -1", x.row(7, -1, 0), -6);
        DUE.is("room", x.row(7, 0, 161), -7);
        DUE.is("refused rows change nothing", x.holds(7), 103);
        DUE.is("refused rows keep elements", x.element(7, 1), 5);
        DUE.is("refusals", Due.refusals(x), 2_00_00_01_01_02_01L);
    }

    private static void sets() {
        PaintedOver x = new PaintedOver();
        x.house(0, 0);
        x.show(1, 0);
        x.row(0, 2, 3);
        DUE.is("set 0", x.set(0, 0, 11), 1);
        DUE.is("set 2", x.set(0, 2, -13), 1);
        DUE.is("element 0", x.element(0, 0), 11);
        DUE.is("element 1", x.element(0, 1), 0);
        DUE.is("element 2", x.element(0, 2), -13);
        DUE.is("set on 8", x.set(8, 0, 1), -1);
        DUE.is("set on -1", x.set(-1, 0, 1), -1);
        DUE.is("set on a house", x.set(1, -1, 1), -2);
        DUE.is("set on nothing", x.set(2, -1, 1), -3);
        DUE.is("set 3", x.set(0, 3, 1), -5);
        DUE.is("set -1", x.set(0, -1, 1), -5);
        DUE.is("refusals", Due.refusals(x), 2_01_01_00_02_00_00L);
        DUE.is("no element 3", x.element(0, 3), 0);
        DUE.is("no element -1", x.element(0, -1), 0);
        DUE.is("element of a house", x.element(1, 0), 0);
        DUE.is("element of nothing", x.element(2, 0), 0);
        DUE.is("element of 8", x.element(8, 0), 0);
        DUE.is("element of -1", x.element(-1, 0), 0);
        x.row(0, 2, 2);
        x.show(0, -1);
        DUE.is("element of what was a row", x.element(0, 0), 0);
        x.row(0, 3, 3);
        x.set(0, 2, 77);
        x.row(0, 3, 1);
        DUE.is("a shorter row ends earlier", x.element(0, 2), 0);
        DUE.is("element refuses nothing", Due.refusals(x), 2_01_01_00_02_00_00L);
    }

    private static void sortsKeepLowestBits() {
        PaintedOver x = new PaintedOver();
        long v = 0x123456789ABCDEF0L;
        long[] kept = {(byte) 0xF0, (short) 0xDEF0, (int) 0x9ABCDEF0L, v};
        for (int sort = 0; sort < 4; sort++) {
            x.row(sort, sort, 1);
            x.set(sort, 0, v);
            DUE.is("lowest bits of sort " + sort, x.element(sort, 0), kept[sort]);
        }
        x.set(0, 0, 127);
        DUE.is("127 as a byte", x.element(0, 0), 127);
        x.set(0, 0, 128);
        DUE.is("128 as a byte", x.element(0, 0), -128);
        x.set(1, 0, 40000);
        DUE.is("40000 as a short", x.element(1, 0), -25536);
    }

    private static void copies() {
        PaintedOver x = new PaintedOver();
        Due.row(x, 0, 1, 1, 2, 3, 4, 5);
        Due.row(x, 1, 1, 10, 20, 30);
        DUE.is("copy", x.copy(0, 1, 3, 1, 2), 1);
        DUE.is("copied 0", x.element(1, 0), 10);
        DUE.is("copied 1", x.element(1, 1), 4);
        DUE.is("copied 2", x.element(1, 2), 5);
        DUE.is("source stays", x.element(0, 3), 4);
        DUE.is("copy onto itself, up", x.copy(0, 0, 0, 1, 4), 1);
        long[] up = {1, 1, 2, 3, 4};
        for (int i = 0; i < up.length; i++) {
            DUE.is("as they were ahead, up " + i, x.element(0, i), up[i]);
        }
        DUE.is("copy onto itself, down", x.copy(0, 0, 2, 0, 3), 1);
        long[] down = {2, 3, 4, 3, 4};
        for (int i = 0; i < down.length; i++) {
            DUE.is("as they were ahead, down " + i, x.element(0, i), down[i]);
        }
        DUE.is("copy of none at the ends", x.copy(0, 1, 5, 3, 0), 1);
        DUE.is("copy of all", x.copy(1, 0, 0, 0, 3), 1);
        DUE.is("refusals", Due.refusals(x), 0);
    }

    private static void copyRefusals() {
        PaintedOver x = new PaintedOver();
        x.house(0, 0);
        Due.row(x, 0, 1, 1, 2, 3);
        Due.row(x, 1, 1, 1, 2);
        Due.row(x, 2, 2, 1, 2);
        x.show(3, 0);
        DUE.is("from 8", x.copy(8, 3, -1, 0, -1), -1);
        DUE.is("from -1", x.copy(-1, 0, 0, 0, 0), -1);
        DUE.is("to 8", x.copy(3, 8, -1, 0, -1), -1);
        DUE.is("to -1", x.copy(0, -1, 0, 0, 0), -1);
        DUE.is("from a house to nothing", x.copy(3, 4, 0, 0, -1), -2);
        DUE.is("from nothing to a house", x.copy(4, 3, 0, 0, -1), -2);
        DUE.is("from a house to itself", x.copy(3, 3, 0, 0, -1), -2);
        DUE.is("from a house to a row", x.copy(3, 0, 0, 0, 0), -2);
        DUE.is("from a row to a house", x.copy(0, 3, 0, 0, 0), -2);
        DUE.is("of two sorts", x.copy(0, 2, -1, 0, -1), -2);
        DUE.is("from nothing", x.copy(4, 2, -1, 0, -1), -3);
        DUE.is("to nothing", x.copy(2, 4, -1, 0, -1), -3);
        DUE.is("from nothing to nothing", x.copy(4, 5, 0, 0, 0), -3);
        DUE.is("below ahead of beyond", x.copy(0, 1, -1, 0, -1), -4);
        DUE.is("i below 0", x.copy(0, 1, -1, 0, 1), -5);
        DUE.is("j below 0", x.copy(0, 1, 0, -1, 1), -5);
        DUE.is("end of p", x.copy(0, 1, 2, 0, 2), -5);
        DUE.is("end of q", x.copy(0, 1, 0, 1, 2), -5);
        DUE.is("none behind p", x.copy(0, 1, 4, 0, 0), -5);
        DUE.is("none behind q", x.copy(0, 1, 0, 3, 0), -5);
        DUE.is("more than p has", x.copy(1, 0, 0, 0, 3), -5);
        DUE.is("wrapping i", x.copy(0, 1, Integer.MAX_VALUE, 0, 2), -5);
        DUE.is("wrapping j", x.copy(0, 1, 0, Integer.MAX_VALUE, 1), -5);
        DUE.is("wrapping n", x.copy(0, 1, 1, 1, Integer.MAX_VALUE), -5);
        DUE.is("refusals", Due.refusals(x), 4_06_03_01_10_00_00L);
        DUE.is("nothing was copied", x.element(1, 1), 2);
    }

    private static void shows() {
        PaintedOver x = new PaintedOver();
        x.house(0, 0);
        x.house(1, 0);
        x.row(0, 2, 3);
        DUE.is("show 1", x.show(0, 1), 1);
        DUE.is("holds 1", x.holds(0), 1);
        DUE.is("show 0", x.show(7, 0), 1);
        DUE.is("holds 0", x.holds(7), 0);
        DUE.is("show NONE", x.show(0, -1), 0);
        DUE.is("holds nothing", x.holds(0), -1);
        DUE.is("show no such house", x.show(7, 2), -1);
        DUE.is("show house -2", x.show(7, -2), -1);
        DUE.is("show on 8", x.show(8, 0), -1);
        DUE.is("show on -1", x.show(-1, 0), -1);
        DUE.is("show NONE on 8", x.show(8, -1), -1);
        DUE.is("refused shows change nothing", x.holds(7), 0);
        DUE.is("holds of 8", x.holds(8), -1);
        DUE.is("holds of -1", x.holds(-1), -1);
        DUE.is("refusals", Due.refusals(x), 5_00_00_00_00_00_00L);
    }

    private static void says() {
        PaintedOver x = new PaintedOver();
        int[] as = {1, 2, 3, 4, 5, 6};
        for (int kind = 0; kind < 6; kind++) {
            x.house(kind, as[kind]);
            x.show(kind, kind);
        }
        x.coat(0, 0, 0, 2, 0);
        DUE.is("HOUSE says its SKIN", x.says(0, 0), 22);
        DUE.is("DAMP says WET", x.says(1, 1), 12);
        DUE.is("LIMED says HARD", x.says(2, 2), 7);
        DUE.is("CELLAR says WET of row 2", x.says(3, 3), 28);
        DUE.is("CELLAR taken for DAMP", x.says(3, 1), 14);
        DUE.is("SOUTH without coats", x.says(4, 4), 0);
        DUE.is("TILED says HARD of CELL 4", x.says(5, 5), 4);
        x.coat(4, 0, 0, 9, 0);
        DUE.is("SOUTH of one coat", x.says(4, 4), 18);
        x.coat(4, 0, 1, 4, 0);
        DUE.is("SOUTH says STRENGTH of the highest", x.says(4, 4), 8);
        for (int cell = 1; cell < 12; cell++) {
            x.scratch(4, cell);
        }
        DUE.is("SOUTH says it where nothing of it LIES", x.says(4, 4), 8);
        x.colour(1, 0, 0);
        DUE.is("SOUTH counts 0 at least", x.says(4, 4), 0);
        x.coat(4, 0, 2, 9, 0);
        DUE.is("SOUTH taken for HOUSE", x.says(4, 0), 11 * (9 + 9));
        DUE.is("no refusals", Due.refusals(x), 0);
    }

    private static void saysByOwnKind() {
        PaintedOver x = new PaintedOver();
        x.house(5, 3);
        x.house(6, 3);
        x.house(6, 9);
        for (int house = 0; house < 3; house++) {
            x.show(house, house);
        }
        DUE.is("TILED taken for LIMED: row 0", x.says(0, 2), 0);
        DUE.is("TILED", x.says(0, 5), 7);
        DUE.is("BARE taken for LIMED: twice", x.says(1, 2), 14);
        DUE.is("BARE says its a", x.says(1, 6), 3);
        DUE.is("BARE of 9 taken for LIMED", x.says(2, 2), 2);
        DUE.is("BARE of 9 says its a", x.says(2, 6), 9);
        DUE.is("BARE taken for HOUSE", x.says(1, 0), 0);
    }

    private static void saysRefusals() {
        boolean[][] is = {
            {true, false, false, false, false, false, false},
            {true, true, false, false, false, false, false},
            {true, false, true, false, false, false, false},
            {true, true, false, true, false, false, false},
            {true, false, false, false, true, false, false},
            {true, false, true, false, false, true, false},
            {true, false, true, false, false, false, true},
        };
        for (int own = 0; own < 7; own++) {
            PaintedOver x = new PaintedOver();
            x.house(own, 0);
            x.show(0, 0);
            for (int kind = 0; kind < 7; kind++) {
                DUE.is("kind " + own + " is of kind " + kind, x.says(0, kind) == -2 ? 0 : 1, is[own][kind] ? 1 : 0);
            }
        }
        PaintedOver x = new PaintedOver();
        x.row(1, 0, 1);
        DUE.is("says of 8", x.says(8, 0), -1);
        DUE.is("says of -1", x.says(-1, 0), -1);
        DUE.is("says of kind 7", x.says(1, 7), -1);
        DUE.is("says of kind -1", x.says(0, -1), -1);
        DUE.is("says of a row", x.says(1, 0), -2);
        DUE.is("says of nothing", x.says(0, 3), -3);
        DUE.is("refusals", Due.refusals(x), 4_01_01_00_00_00_00L);
    }
}
