/** Promises 15 and 16 at their edges: each number, each letter, each end of a street's text, and all or nothing. */
public final class TextEdgesTest {
    private static final Due DUE = new Due("TextEdgesTest");

    /** All six words, each number as great as it may be; what this text tells may be told over two houses. */
    private static final String ALL_WORDS = "house 6 9;coat 2 7 5 9 11;hides 5 9;costs 5 99;hail 99;coat 0 0 0 1 0;scratch 0 11";
    /** The same with numbers that begin with 0. */
    private static final String ZEROS = "house 06 09;coat 02 07 05 01 01;hides 05 00;costs 05 00;hail 00;scratch 02 02";

    public static void main(String[] args) {
        numbersOfHouses();
        numbersOfCoats();
        numbersOfColours();
        numbersOfHail();
        numbersOfScratches();
        threeDigits();
        textsThatEndTooEarly();
        numbersAtTheVeryEnd();
        anotherElementAtEachPlace();
        oneBlank();
        betweenItems();
        itemsCounted();
        noLetters();
        fullRow();
        fullRowThatEndsTooEarly();
        roomForAWord();
        roomOnAFullHouse();
        scratchWhereNothingLies();
        allOrNothing();
        latestFault();
        bitsOfLetters();
        DUE.end();
    }

    /** Two houses; on house 0 two coats, so that something lies in each cell. */
    private static PaintedOver twoHouses() {
        PaintedOver x = new PaintedOver();
        x.house(0, 0);
        x.house(2, 3);
        x.coat(0, 1, 1, 1, 0);
        x.coat(0, 2, 2, 2, 11);
        return x;
    }

    private static void faultOn(PaintedOver x, String text, int fault) {
        DUE.is("street '" + text + "'", Due.street(x, text), -6);
        DUE.is("fault of '" + text + "'", x.fault(), fault);
    }

    /** All numbers of one or two digits between two parts of an item: those from least to most may be. */
    private static void numbers(String ahead, int least, int most, String behind) {
        for (int n = 0; n <= 99; n++) {
            boolean mayBe = n >= least && n <= most;
            number(ahead + n + behind, ahead.length(), mayBe);
            if (n < 10) {
                number(ahead + "0" + n + behind, ahead.length(), mayBe);
            }
        }
    }

    private static void number(String text, int at, boolean mayBe) {
        PaintedOver x = twoHouses();
        DUE.is("street '" + text + "'", Due.street(x, text), mayBe ? text.split(";").length : -6);
        DUE.is("fault of '" + text + "'", x.fault(), mayBe ? -1 : at);
    }

    private static void numbersOfHouses() {
        numbers("house ", 0, 6, " 0");
        numbers("house 0 ", 0, 9, "");
        for (int kind = 0; kind <= 6; kind++) {
            PaintedOver x = new PaintedOver();
            DUE.is("of kind " + kind, Due.street(x, "house " + kind + " " + (9 - kind)), 1);
            DUE.is("kind " + kind, x.houseOf(0, 0), kind);
            DUE.is("a of kind " + kind, x.houseOf(0, 1), 9 - kind);
        }
    }

    private static void numbersOfCoats() {
        numbers("coat ", 0, 1, " 0 0 1 0");
        numbers("coat 0 ", 0, 7, " 0 1 0");
        numbers("coat 0 0 ", 0, 5, " 1 0");
        numbers("coat 0 0 0 ", 1, 9, " 0");
        numbers("coat 0 0 0 1 ", 0, 11, "");
        PaintedOver x = new PaintedOver();
        faultOn(x, "coat 0 0 0 1 0", 5);
        faultOn(x, "coat 00 0 0 1 0", 5);
        faultOn(x, "coat", 4);
        faultOn(x, "coat ", 5);
        for (int house = 0; house < 6; house++) {
            x.house(0, 0);
            DUE.is("a coat for " + house, Due.street(x, "coat " + house + " 0 0 1 0"), 1);
            faultOn(x, "coat " + (house + 1) + " 0 0 1 0", 5);
        }
    }

    private static void numbersOfColours() {
        numbers("hides ", 0, 5, " 0");
        numbers("hides 0 ", 0, 9, "");
        numbers("costs ", 0, 5, " 0");
        numbers("costs 0 ", 0, 99, "");
        PaintedOver x = new PaintedOver();
        for (int n = 0; n <= 99; n++) {
            Due.street(x, "costs 5 " + n);
            DUE.is("costs " + n, x.colour(5, 1, 0), n);
        }
        PaintedOver y = new PaintedOver();
        for (int n = 0; n <= 9; n++) {
            Due.street(y, "hides 0 " + n);
            DUE.is("hides " + n, y.colour(0, 0, 3), n);
        }
        DUE.is("hides of another colour", y.colour(1, 0, 3), 3);
    }

    private static void numbersOfHail() {
        numbers("hail ", 0, 99, "");
        PaintedOver x = twoHouses();
        Due.street(x, "coat 1 0 0 9 0;hail 0");
        DUE.is("hail 0 takes none", x.coatOf(0, 1, 6), 0x7FF);
        Due.street(x, "hail 1");
        DUE.is("hail 1: in the gap of the upper", x.coatOf(0, 0, 6), 0x7FE);
        Due.street(x, "hail 11");
        DUE.is("hail 11 is 8 on LIMED of 3", x.coatOf(1, 0, 6), 0xFFE);
        Due.street(x, "hail 12");
        DUE.is("hail 12 is 9", x.coatOf(1, 0, 6), 0);
        PaintedOver none = new PaintedOver();
        DUE.is("hail without houses", Due.street(none, "hail 99"), 1);
    }

    private static void numbersOfScratches() {
        numbers("coat 1 0 0 1 11;scratch ", 0, 1, " 0");
        numbers("scratch 0 ", 0, 11, "");
        PaintedOver none = new PaintedOver();
        faultOn(none, "scratch 0 0", 8);
        PaintedOver x = twoHouses();
        faultOn(x, "scratch 1 0", 10);
        faultOn(x, "scratch 2 0", 8);
        faultOn(x, "scratch 1 12", 10);
    }

    /** A number has two digits at most: a third can't stand. */
    private static void threeDigits() {
        faultOn(twoHouses(), "house 000 0", 8);
        faultOn(twoHouses(), "house 0 009", 10);
        faultOn(twoHouses(), "house 070 0", 6);
        faultOn(twoHouses(), "coat 001 0 0 1 0", 7);
        faultOn(twoHouses(), "coat 0 007 0 1 0", 9);
        faultOn(twoHouses(), "coat 0 0 005 1 0", 11);
        faultOn(twoHouses(), "coat 0 0 0 011 0", 13);
        faultOn(twoHouses(), "coat 0 0 0 001 0", 11);
        faultOn(twoHouses(), "coat 0 0 0 1 011", 15);
        faultOn(twoHouses(), "hides 005 0", 8);
        faultOn(twoHouses(), "hides 0 009", 10);
        faultOn(twoHouses(), "costs 0 099", 10);
        faultOn(twoHouses(), "costs 0 100", 10);
        faultOn(twoHouses(), "hail 099", 7);
        faultOn(twoHouses(), "hail 100", 7);
        faultOn(twoHouses(), "scratch 000 0", 10);
        faultOn(twoHouses(), "scratch 0 011", 12);
        faultOn(twoHouses(), "scratch 0 120", 10);
    }

    private static boolean isDigit(char letter) {
        return letter >= '0' && letter <= '9';
    }

    /** Whether an item ends ahead of a place of a text: how many numbers the item has by then tells it. */
    private static boolean endsAnItem(String text, int end) {
        String[] item = text.substring(text.lastIndexOf(';', end - 1) + 1, end).split(" ");
        switch (item[0]) {
            case "coat":
                return item.length == 6;
            case "hail":
                return item.length == 2;
            case "house":
            case "hides":
            case "costs":
            case "scratch":
                return item.length == 3;
            default:
                return false;
        }
    }

    private static void textsThatEndTooEarly() {
        for (String text : new String[] {ALL_WORDS, ZEROS}) {
            int whole = 0;
            for (int end = 0; end <= text.length(); end++) {
                PaintedOver x = twoHouses();
                String part = text.substring(0, end);
                if (end > 0 && isDigit(text.charAt(end - 1)) && endsAnItem(text, end)) {
                    DUE.is("items of '" + part + "'", Due.street(x, part) > 0 ? 1 : 0, 1);
                    DUE.is("no fault of '" + part + "'", x.fault(), -1);
                    whole++;
                } else if (!part.endsWith("coat 02 07 05 0")) {
                    faultOn(x, part, end);
                }
            }
            DUE.is("parts of '" + text + "' that are whole", whole, text.equals(ALL_WORDS) ? 11 : 12);
        }
    }

    /** "Of a NUMBER that may not be the place of its first digit", though the text ends there too. */
    private static void numbersAtTheVeryEnd() {
        faultOn(twoHouses(), "coat 0 0 0 0", 11);
        faultOn(twoHouses(), "coat 0 0 0 00", 11);
        faultOn(twoHouses(), "coat 0 0 0 10", 11);
        faultOn(twoHouses(), "coat 0 0 0 99", 11);
        faultOn(twoHouses(), "house 06 09;coat 02 07 05 0", 26);
        faultOn(twoHouses(), "house 7", 6);
        faultOn(twoHouses(), "house 07", 6);
        faultOn(twoHouses(), "house 0 10", 8);
        faultOn(twoHouses(), "coat 2", 5);
        faultOn(twoHouses(), "coat 9", 5);
        faultOn(twoHouses(), "coat 0 8", 7);
        faultOn(twoHouses(), "coat 0 0 6", 9);
        faultOn(twoHouses(), "coat 0 0 0 1 12", 13);
        faultOn(twoHouses(), "hides 6", 6);
        faultOn(twoHouses(), "hides 0 10", 8);
        faultOn(twoHouses(), "costs 6", 6);
        faultOn(twoHouses(), "scratch 2", 8);
        faultOn(twoHouses(), "scratch 0 12", 10);
        faultOn(twoHouses(), "scratch 1 0", 10);
        faultOn(twoHouses(), "scratch 1 1", 10);
        faultOn(new PaintedOver(), "coat 0", 5);
        faultOn(new PaintedOver(), "scratch 0", 8);
        faultOn(twoHouses(), "coat 0 0 0 1", 12);
        faultOn(twoHouses(), "coat 0 0 0 09", 13);
    }

    private static void anotherElementAtEachPlace() {
        int[] others = {'x', 'H', '/', ':', '<', 0, -1, 31, 127, 9, 10, Integer.MIN_VALUE, Integer.MAX_VALUE, 256 + ' ', -208};
        for (int at = 0; at < ALL_WORDS.length(); at++) {
            for (int other : others) {
                PaintedOver x = twoHouses();
                Due.text(x, 3, 2, ALL_WORDS);
                x.set(3, at, other);
                DUE.is("element " + other + " at " + at, x.street(3), -6);
                DUE.is("fault of element " + other + " at " + at, x.fault(), at);
            }
        }
    }

    /** One blank between words and numbers: no other, none left out, none around. */
    private static void oneBlank() {
        for (int at = 0; at <= ALL_WORDS.length(); at++) {
            boolean isBlank = at < ALL_WORDS.length() && ALL_WORDS.charAt(at) == ' ';
            boolean inDigits = at > 0 && at < ALL_WORDS.length()
                && isDigit(ALL_WORDS.charAt(at - 1)) && isDigit(ALL_WORDS.charAt(at));
            if (!inDigits) {
                faultOn(twoHouses(), ALL_WORDS.substring(0, at) + " " + ALL_WORDS.substring(at), isBlank ? at + 1 : at);
            }
        }
        faultOn(twoHouses(), "coat0 0 0 1 0", 4);
        faultOn(twoHouses(), "coat 0 0 0;1 0", 10);
        faultOn(twoHouses(), "hail 1 1", 6);
        faultOn(twoHouses(), "scratch 0 1 1", 11);
        faultOn(twoHouses(), "costs 0 9 9", 9);
        faultOn(twoHouses(), "hail\t1", 4);
    }

    /** Between items one ; and nothing else: a word, or a part of one, can't stand right behind a number. */
    private static void betweenItems() {
        String[] behind = {"h", "ho", "hou", "house 0 0", "hail 0", "c", "coat 0 0 0 1 0", "s", "scratch 0 1", " hail 0", ",hail 0"};
        for (String more : behind) {
            faultOn(twoHouses(), "hail 0" + more, 6);
            faultOn(twoHouses(), "costs 0 99" + more, 10);
            faultOn(twoHouses(), "hail 0;hail 0" + more, 13);
        }
    }

    private static void itemsCounted() {
        StringBuilder text = new StringBuilder();
        for (int items = 1; items <= 21; items++) {
            text.append(items == 1 ? "" : ";").append("hail ").append(items % 10);
            DUE.is("items", Due.street(new PaintedOver(), text.toString()), items);
            faultOn(new PaintedOver(), text + ";", text.length() + 1);
            faultOn(new PaintedOver(), text + ";;hail 0", text.length() + 1);
        }
    }

    private static void noLetters() {
        for (int sort = 0; sort < 4; sort++) {
            PaintedOver x = twoHouses();
            x.row(0, sort, 0);
            DUE.is("street of no letters", x.street(0), -6);
            DUE.is("fault of no letters", x.fault(), 0);
            DUE.is("houses", x.status(0), 2);
            DUE.is("refusals", Due.refusals(x), 1_00L);
        }
    }

    /** 160 letters: six houses, six coats, a colour. */
    private static String fullText(String last) {
        StringBuilder text = new StringBuilder();
        for (int n = 0; n < 6; n++) {
            text.append("house 0 ").append(n).append(';');
        }
        for (int n = 0; n < 6; n++) {
            text.append("coat ").append(n).append(" 1 2 3 4;");
        }
        return text.append(last).toString();
    }

    private static void fullRow() {
        String text = fullText("costs 0 99");
        for (int sort = 0; sort < 4; sort++) {
            PaintedOver x = new PaintedOver();
            DUE.is("letters", text.length(), 160);
            Due.text(x, sort, sort, text);
            DUE.is("items of a full row", x.street(sort), 13);
            DUE.is("no fault", x.fault(), -1);
            DUE.is("houses", x.status(0), 6);
            DUE.is("coats", x.status(1), 6);
            DUE.is("the last house's a", x.houseOf(5, 1), 5);
            DUE.is("its coat", x.coatOf(5, 0, 2), 3);
            DUE.is("costs", x.colour(0, 1, 1), 99);
        }
    }

    private static void fullRowThatEndsTooEarly() {
        String[] ends = {"hides 0 10", "hides 0 9;", "hail 100;;", "house 0 00", "costs 000 ", "hail 10;ha", "scratch 0 ", "hail 1;hai"};
        int[] faults = {158, 160, 157, 150, 158, 160, 160, 160};
        for (int n = 0; n < ends.length; n++) {
            PaintedOver x = new PaintedOver();
            String text = fullText(ends[n]);
            DUE.is("letters", text.length(), 160);
            faultOn(x, text, faults[n]);
            DUE.is("nothing is told", x.status(0) + x.status(1), 0);
        }
    }

    /** Room for a word is asked when its letters stand whole. */
    private static void roomForAWord() {
        PaintedOver x = new PaintedOver();
        for (int n = 0; n < 6; n++) {
            x.house(0, 0);
        }
        String[] parts = {"h", "ho", "hou", "hous"};
        for (String part : parts) {
            faultOn(x, part, part.length());
            faultOn(x, part + "x", part.length());
            faultOn(x, "hail 0;" + part, 7 + part.length());
            faultOn(x, "hail 0;" + part + ";", 7 + part.length());
        }
        String[] wholes = {"house", "house ", "housex", "house;", "house 0 0", "house 7 0", "house 0 10", "house 0 0;x"};
        for (String whole : wholes) {
            faultOn(x, whole, 0);
            faultOn(x, "hail 0;" + whole, 7);
        }
        DUE.is("six houses still", x.status(0), 6);
        PaintedOver y = new PaintedOver();
        String five = "house 0 0;house 1 1;house 2 2;house 3 3;house 4 4";
        faultOn(y, five + ";house 5 5;house 6 6", 60);
        DUE.is("no house of seven", y.status(0), 0);
        DUE.is("six", Due.street(y, five + ";house 5 5"), 6);
        DUE.is("houses of six", y.status(0), 6);
    }

    /** A ninth coat: the fault is its house, whatever follows; another house may be told in the same place. */
    private static void roomOnAFullHouse() {
        PaintedOver x = new PaintedOver();
        x.house(0, 0);
        x.house(0, 0);
        for (int n = 0; n < 8; n++) {
            x.coat(0, 0, 0, 1, 0);
        }
        String[] behind = {" 0 0 1 0", " 9 9 9 99", "", " ", "x", " 0 0 1 0;x"};
        for (String end : behind) {
            faultOn(x, "coat 0" + end, 5);
            faultOn(x, "coat 00" + end, 5);
        }
        faultOn(x, "coat x", 5);
        faultOn(x, "coat 2 0 0 1 0", 5);
        DUE.is("the other has room", Due.street(x, "coat 01 0 0 1 0"), 1);
        DUE.is("coats", x.status(1), 9);
        faultOn(x, "coat 1 0 0 1 0;coat 1 0 0 1 0;coat 0 0 0 1 0", 35);
        DUE.is("coats still", x.status(1), 9);
        x.hail(99);
        faultOn(x, "coat 0 0 0 1 0", 5);
    }

    private static void scratchWhereNothingLies() {
        faultOn(twoHouses(), "scratch 1 0", 10);
        faultOn(twoHouses(), "scratch 0 0;scratch 0 0", 22);
        faultOn(twoHouses(), "scratch 0 11;scratch 0 11", 23);
        DUE.is("in a gap the one beneath", Due.street(twoHouses(), "scratch 0 11"), 1);
        DUE.is("two", Due.street(twoHouses(), "scratch 0 1;scratch 0 1"), 2);
        faultOn(twoHouses(), "scratch 0 1;scratch 0 1;scratch 0 1", 34);
        faultOn(twoHouses(), "hail 3;scratch 0 1", 17);
        DUE.is("one on top", Due.street(twoHouses(), "hail 3;coat 0 0 0 1 0;scratch 0 1"), 3);
        faultOn(twoHouses(), "hail 3;coat 0 0 0 1 1;scratch 0 1", 32);
    }

    /** What was told ahead of a fault is undone, of every sort; the fault alone is told. */
    private static void allOrNothing() {
        String[] items = {"house 1 1", "coat 1 1 1 1 1", "hides 0 9", "costs 0 9", "hail 99", "scratch 0 0"};
        int[] rooms = {6, 5};
        for (int houses : rooms) {
            long[] plain = plainLook(houses);
            for (String item : items) {
                PaintedOver x = withHouses(houses);
                String text = houses == 6 && item.startsWith("house") ? item : item + ";x";
                DUE.is("street '" + text + "'", Due.street(x, text), -6);
                DUE.is("refusals", Due.refusals(x), 1_00L);
                x.show(7, -1);
                DUE.same("nothing was told by '" + text + "'", Scene.lookAtTown(x), plain);
            }
        }
        PaintedOver x = withHouses(5);
        x.image();
        faultOn(x, "house 0 0;hides 0 9;hail 99;coat 5 0 0 1 0;x", 43);
        x.restore();
        DUE.same("nor in the image", Scene.lookAtTown(x), plainLook(5));
    }

    private static PaintedOver withHouses(int houses) {
        PaintedOver x = twoHouses();
        for (int n = 2; n < houses; n++) {
            x.house(n, n);
        }
        return x;
    }

    private static long[] plainLook(int houses) {
        return Scene.lookAtTown(withHouses(houses));
    }

    /** "The FAULT of the latest street() that came to a ROW; NONE: there was none, or none yet." */
    private static void latestFault() {
        PaintedOver x = twoHouses();
        DUE.is("none yet", x.fault(), -1);
        x.show(1, 0);
        x.street(0);
        x.street(1);
        x.street(8);
        x.street(-1);
        DUE.is("none of what is no row", x.fault(), -1);
        faultOn(x, "hail x", 5);
        x.street(0);
        x.street(1);
        x.street(8);
        x.street(-1);
        DUE.is("that of the row", x.fault(), 5);
        faultOn(x, "hail", 4);
        x.restore();
        x.image();
        x.restore();
        DUE.is("an image doesn't tell it", x.fault(), 4);
        DUE.is("a street without", Due.street(x, "hail 0"), 1);
        DUE.is("none", x.fault(), -1);
        faultOn(x, "", 0);
        x.row(7, 0, 5);
        DUE.is("0 is one", x.fault(), 0);
    }

    /** What is put in keeps its lowest bits; of longs the lowest 32 bits count. */
    private static void bitsOfLetters() {
        long[] above = {1L << 8, 1L << 16, 1L << 31, 1L << 32, 1L << 63, -1L << 32};
        int[] bits = {8, 16, 32, 32};
        for (int sort = 0; sort < 4; sort++) {
            for (long more : above) {
                PaintedOver x = new PaintedOver();
                Due.text(x, 0, sort, "house 6 09");
                for (int i = 0; i < 10; i++) {
                    x.set(0, i, x.element(0, i) + more);
                }
                boolean isLost = (more & (1L << bits[sort]) - 1) == 0;
                DUE.is("bits " + Long.toHexString(more) + " in sort " + sort, x.street(0), isLost ? 1 : -6);
                DUE.is("fault of bits " + Long.toHexString(more) + " in sort " + sort, x.fault(), isLost ? -1 : 0);
                DUE.is("houses", x.status(0), isLost ? 1 : 0);
            }
        }
    }
}
