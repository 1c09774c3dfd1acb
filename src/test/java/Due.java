/** Counts the calls whose answer is not the one that is due, and puts texts on shelves. */
final class Due {
    private final String name;
    private int asked = 0;
    private int wrong = 0;

    Due(String name) {
        this.name = name;
    }

    void is(String call, long got, long want) {
        asked++;
        if (got != want) {
            wrong++;
            System.out.println(name + ": " + call + " answered " + got + ", due is " + want);
        }
    }

    void same(String what, long[] got, long[] want) {
        asked++;
        int at = java.util.Arrays.mismatch(got, want);
        if (at >= 0) {
            wrong++;
            System.out.println(name + ": " + what + ": answer " + at + " isn't as it was");
        }
    }

    void end() {
        System.out.println(name + ": " + asked + " answers, " + wrong + " not as due");
        if (wrong != 0) {
            System.exit(1);
        }
    }

    /** Lays a text on shelf s as a row of that sort. */
    static void text(PaintedOver x, int s, int sort, String text) {
        x.row(s, sort, text.length());
        for (int i = 0; i < text.length(); i++) {
            x.set(s, i, text.charAt(i));
        }
    }

    static void row(PaintedOver x, int s, int sort, long... values) {
        x.row(s, sort, values.length);
        for (int i = 0; i < values.length; i++) {
            x.set(s, i, values[i]);
        }
    }

    static int street(PaintedOver x, String text) {
        text(x, 7, 0, text);
        return x.street(7);
    }

    /** Strengths 18, 10 and 0, thick 2, 5 and 3, gaps 0, 1 and 2, tenants 0, 1 and 2. */
    static PaintedOver threeCoats(int kind, int a) {
        PaintedOver x = new PaintedOver();
        x.colour(5, 0, 9);
        x.colour(1, 0, 2);
        x.colour(2, 0, 0);
        x.house(kind, a);
        x.coat(0, 0, 5, 2, 0);
        x.coat(0, 1, 1, 5, 1);
        x.coat(0, 2, 2, 3, 2);
        return x;
    }

    /** The refusals so far, -1 to -7, each two digits. */
    static long refusals(PaintedOver x) {
        long told = 0;
        for (int what = 11; what <= 17; what++) {
            told = 100 * told + x.status(what);
        }
        return told;
    }
}
