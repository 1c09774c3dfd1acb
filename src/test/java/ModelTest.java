import java.lang.reflect.Method;
import java.lang.reflect.Modifier;
import java.util.ArrayList;
import java.util.Comparator;
import java.util.List;
import java.util.Random;

/** Long runs of drawn calls: the program answers each as Model does, which tells the document a second time. */
public final class ModelTest {
    private static final Due DUE = new Due("ModelTest");
    private static final int RUNS = 400;
    private static final int CALLS = 512;
    private static final int LONGEST_TEXT = 60;
    private static final String[] ITEMS = {"house", "coat", "coat", "coat", "hides", "costs", "hail", "scratch"};
    private static final long[] WILD = {Long.MIN_VALUE, Integer.MIN_VALUE, -1000, -2, 161, 256, 1000, 65536 + 10,
        (1L << 32) + 21, Integer.MAX_VALUE, Long.MAX_VALUE};

    private static Random random = new Random(0);
    private static PaintedOver program = new PaintedOver();
    private static Model model = new Model();
    private static int calls = 0;
    private static int run = 0;

    public static void main(String[] args) throws ReflectiveOperationException {
        List<Method> face = face();
        for (run = 0; run < RUNS; run++) {
            random = new Random(run);
            program = new PaintedOver();
            model = new Model();
            calls = 0;
            furnish(face);
            while (calls < CALLS - LONGEST_TEXT - 10) {
                step(face);
            }
            while (calls < CALLS) {
                anyOf(face);
            }
        }
        DUE.end();
    }

    /** The face's methods in an order that is the same everywhere. */
    private static List<Method> face() {
        List<Method> face = new ArrayList<>();
        for (Method method : PaintedOver.class.getDeclaredMethods()) {
            if (Modifier.isPublic(method.getModifiers())) {
                face.add(method);
            }
        }
        face.sort(Comparator.comparing(Method::getName));
        return face;
    }

    private static void ask(List<Method> face, String name, long... v) throws ReflectiveOperationException {
        for (Method method : face) {
            if (method.getName().equals(name)) {
                ask(method, v);
            }
        }
    }

    private static void ask(Method method, long... v) throws ReflectiveOperationException {
        Class<?>[] types = method.getParameterTypes();
        Object[] given = new Object[types.length];
        StringBuilder call = new StringBuilder("run " + run + ", call " + calls + ": " + method.getName());
        for (int i = 0; i < types.length; i++) {
            if (types[i] == long.class) {
                given[i] = v[i];
            } else {
                given[i] = (int) v[i];
            }
            call.append(' ').append(given[i]);
        }
        calls++;
        DUE.is(call.toString(), ((Number) method.invoke(program, given)).longValue(), model.call(method.getName(), v));
    }

    // ==== What is drawn

    private static int below(int n) {
        return random.nextInt(n);
    }

    private static boolean seldom(int n) {
        return random.nextInt(n) == 0;
    }

    private static int houses() {
        return (int) model.call("status", 0);
    }

    private static int mostCoats() {
        int most = 0;
        for (int house = 0; house < houses(); house++) {
            most = Math.max(most, (int) model.call("houseOf", house, 2));
        }
        return most;
    }

    private static void furnish(List<Method> face) throws ReflectiveOperationException {
        int more = below(7);
        for (int n = 0; n < more; n++) {
            ask(face, "house", below(7), below(10));
        }
        if (seldom(2)) {
            for (int c = 0; c < 6; c++) {
                ask(face, "colour", c, 0, below(10));
                ask(face, "colour", c, 1, below(30));
            }
        }
        if (seldom(2)) {
            ask(face, "ask", 0, 1 + below(999));
        }
        int coats = more == 0 ? 0 : below(5 * more);
        for (int n = 0; n < coats; n++) {
            ask(face, "coat", below(more), below(8), below(6), 1 + below(9), below(12));
        }
    }

    private static void step(List<Method> face) throws ReflectiveOperationException {
        switch (below(20)) {
            case 0:
                tell(face);
                break;
            case 1:
                pairs(face);
                break;
            case 2:
                say(face);
                break;
            case 3:
                copy(face);
                break;
            case 4:
            case 5:
            case 6:
                if (houses() > 0) {
                    ask(face, "coat", below(houses()), below(8), below(6), 1 + below(9), below(12));
                }
                break;
            case 7:
            case 8:
                look(face);
                break;
            default:
                anyOf(face);
                break;
        }
    }

    /** Asks much of one house, if it has coats. */
    private static void look(List<Method> face) throws ReflectiveOperationException {
        if (mostCoats() == 0) {
            return;
        }
        int house = below(houses());
        int coats = Math.max(1, (int) model.call("houseOf", house, 2));
        int coat = below(coats);
        ask(face, "coatOf", house, coat, below(7));
        ask(face, "seen", house, below(12), below(40));
        ask(face, "hailed", house, below(12), below(20));
        ask(face, "razor", house, coat, 0);
        ask(face, "razor", house, coat, 1);
        ask(face, "hidden", house, below(40));
        ask(face, "shown", house, below(20));
        ask(face, "firstWet", house, coat);
        ask(face, "paint", house, below(12), below(30));
        ask(face, "gap", house, below(8));
        ask(face, "price", house, below(40));
    }

    private static void say(List<Method> face) throws ReflectiveOperationException {
        int s = below(8);
        if (houses() > 0) {
            int house = below(houses());
            ask(face, "show", s, house);
            ask(face, "says", s, below(7));
            ask(face, "says", s, model.call("houseOf", house, 0));
        } else {
            ask(face, "show", s, -1);
        }
    }

    private static void copy(List<Method> face) throws ReflectiveOperationException {
        lay(face, below(4), below(100), below(1000), -below(100), 1L << below(63));
        int p = shelf;
        int q = seldom(2) ? p : below(8);
        ask(face, "row", q, model.call("holds", p) - 100, 5);
        ask(face, "set", q, below(5), below(100));
        ask(face, "copy", p, q, below(3), below(3), below(5));
        for (int i = 0; i < 6; i++) {
            ask(face, "element", q, i);
        }
    }

    private static void anyOf(List<Method> face) throws ReflectiveOperationException {
        Method method = face.get(below(face.size()));
        long[] v = new long[method.getParameterCount()];
        for (int i = 0; i < v.length; i++) {
            v[i] = argument(bounds(method.getName(), i, v[0]));
        }
        ask(method, v);
    }

    /** Mostly what may be, now and then what lies beside it, seldom anything. */
    private static long argument(int[] bounds) {
        if (seldom(150)) {
            return WILD[below(WILD.length)];
        }
        if (seldom(25)) {
            return seldom(2) ? bounds[0] - 1 : bounds[1] + 1;
        }
        return bounds[0] >= bounds[1] ? bounds[0] : bounds[0] + below(bounds[1] - bounds[0] + 1);
    }

    private static int[] upTo(int most) {
        return new int[] {0, most};
    }

    private static int[] bounds(String name, int i, long first) {
        switch (name) {
            case "row":
                return upTo(new int[] {7, 3, seldom(5) ? 160 : 25}[i]);
            case "set":
                return i == 2 ? new int[] {-200, 200} : upTo(i == 0 ? 7 : 25);
            case "copy":
                return upTo(i < 2 ? 7 : 8);
            case "element":
                return upTo(i == 0 ? 7 : 25);
            case "show":
                return i == 0 ? upTo(7) : new int[] {-1, houses() - 1};
            case "says":
                return upTo(i == 0 ? 7 : 6);
            case "house":
                return upTo(i == 0 ? 6 : 9);
            case "colour":
                return upTo(new int[] {5, 1, seldom(2) ? 99 : 9}[i]);
            case "ask":
                return i == 0 ? upTo(1) : first == 1 ? new int[] {10, 99} : new int[] {seldom(5) ? 1 : 400, 999};
            case "coat":
                return i == 0 ? upTo(houses() - 1) : i == 3 ? new int[] {1, 9} : upTo(new int[] {0, 7, 5, 0, 11}[i]);
            case "orders":
            case "forged":
                return i == 0 ? upTo(7) : i == 1 ? upTo(6) : new int[] {-1, 6};
            case "moves":
                return upTo(i == 0 ? 7 : 1);
            case "hail":
                return upTo(seldom(20) ? 99 : 5);
            case "years":
                return new int[] {1, seldom(15) ? 40 : 2};
            case "seed":
                return new int[] {-50000, 50000};
            case "act":
                return i == 0 ? upTo(houses() - 1) : i == 1 ? upTo(2) : new int[] {-3000, 3000};
            case "trace":
                return upTo(9);
            case "status":
                return upTo(18);
            case "street":
            case "holds":
                return upTo(7);
            default:
                return ofHouse(name, i);
        }
    }

    /** Of the calls whose first argument is a house. */
    private static int[] ofHouse(String name, int i) {
        if (i == 0 || name.equals("lane")) {
            return upTo(houses() - 1);
        }
        switch (name) {
            case "houseOf":
                return upTo(4);
            case "coatOf":
                return upTo(i == 1 ? mostCoats() - 1 : 6);
            case "razor":
                return upTo(i == 1 ? mostCoats() - 1 : 1);
            case "firstWet":
                return upTo(mostCoats() - 1);
            case "gap":
                return upTo(7);
            case "hidden":
            case "price":
                return upTo(seldom(3) ? 99 : 30);
            case "shown":
                return upTo(seldom(3) ? 99 : 20);
            case "hailed":
                return upTo(i == 1 ? 11 : seldom(3) ? 99 : 20);
            default:
                return upTo(i == 1 ? 11 : seldom(3) ? 99 : 30);
        }
    }

    private static void lay(List<Method> face, int sort, long... row) throws ReflectiveOperationException {
        int s = below(8);
        ask(face, "row", s, sort, row.length);
        for (int i = 0; i < row.length; i++) {
            ask(face, "set", s, i, row[i]);
        }
        shelf = s;
    }

    private static int shelf = 0;

    private static void pairs(List<Method> face) throws ReflectiveOperationException {
        long[] row = new long[seldom(10) ? 21 : below(15)];
        boolean downhill = seldom(2);
        for (int i = 0; i < row.length; i++) {
            int one = below(8);
            int other = (one + 1 + below(7)) % 8;
            row[i] = downhill ? 10 * Math.max(one, other) + Math.min(one, other) : 10 * one + other;
            if (seldom(100)) {
                row[i] = below(100) - 5;
            }
        }
        int sort = below(4);
        if (sort == 3 && row.length > 0) {
            row[below(row.length)] += (long) below(3) << 32;
        }
        lay(face, sort, row);
        for (int k = 0; k < 3; k++) {
            ask(face, "orders", shelf, below(row.length + 1), below(9) - 1);
            ask(face, "forged", shelf, below(row.length + 1));
        }
        ask(face, "orders", shelf, row.length, -1);
        ask(face, "forged", shelf, row.length);
    }

    // ==== Texts

    private static void tell(List<Method> face) throws ReflectiveOperationException {
        String text = text();
        long[] row = new long[text.length()];
        for (int i = 0; i < row.length; i++) {
            row[i] = text.charAt(i);
        }
        int sort = below(4);
        if (row.length > 0 && seldom(10)) {
            row[below(row.length)] += sort == 3 ? 1L << 32 : -256;
        }
        lay(face, sort, row);
        ask(face, "street", shelf);
        ask(face, "fault");
    }

    private static String text() {
        StringBuilder text = new StringBuilder();
        int items = 1 + below(4);
        int house = houses();
        for (int n = 0; n < items && text.length() < LONGEST_TEXT - 20; n++) {
            String word = house == 0 && !seldom(10) ? "house" : ITEMS[below(ITEMS.length)];
            text.append(n == 0 ? "" : ";").append(word);
            numbers(text, word, house);
            house += word.equals("house") ? 1 : 0;
        }
        if (seldom(4)) {
            spoil(text);
        }
        return text.toString();
    }

    private static void numbers(StringBuilder text, String word, int houses) {
        switch (word) {
            case "house":
                number(text, 0, 6);
                number(text, 0, 9);
                break;
            case "coat":
                number(text, 0, houses - 1);
                number(text, 0, 7);
                number(text, 0, 5);
                number(text, 1, 9);
                number(text, 0, 11);
                break;
            case "hides":
                number(text, 0, 5);
                number(text, 0, 9);
                break;
            case "costs":
                number(text, 0, 5);
                number(text, 0, 99);
                break;
            case "hail":
                number(text, 0, seldom(4) ? 99 : 9);
                break;
            default:
                number(text, 0, houses - 1);
                number(text, 0, 11);
                break;
        }
    }

    private static void number(StringBuilder text, int least, int most) {
        long number = Math.max(0, argument(new int[] {least, most}));
        text.append(' ').append(number < 10 && seldom(8) ? "0" : "").append(number % 1000);
    }

    private static void spoil(StringBuilder text) {
        int at = below(text.length());
        char letter = "hcs 0159;Hx\u0001-".charAt(below(13));
        switch (below(4)) {
            case 0:
                text.setLength(at);
                break;
            case 1:
                text.deleteCharAt(at);
                break;
            case 2:
                text.insert(at, letter);
                break;
            default:
                text.setCharAt(at, letter);
                break;
        }
    }
}
