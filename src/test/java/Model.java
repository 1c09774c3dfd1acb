import java.util.ArrayList;
import java.util.List;
import java.util.regex.Matcher;
import java.util.regex.Pattern;

/**
 * The document once more, written the plainest way and another way than the program: coats in stacks, kinds in
 * tables, orders by trying all of them. ModelTest asks both the same.
 */
final class Model {
    private static final int[] ABOVE = {-1, 0, 0, 1, 0, 2, 2};
    private static final String[] WORDS = {"house", "coat", "hides", "costs", "hail", "scratch"};
    private static final Pattern NUMBER = Pattern.compile(" ([0-9]{1,2})");
    /** The bodies' numbers: of each kind (a row), of paints, peels, falls (a column); 0: it has none. */
    private static final int[][] BODIES = {{10, 11, 12}, {20, 0, 0}, {0, 30, 0}, {0, 40, 0}, {51, 0, 50}, {0, 0, 60}, {70, 71, 0}};

    /** A call that is refused. */
    private static final class Refused extends RuntimeException {
        private static final long serialVersionUID = 1L;
        final int number;

        Refused(int number) {
            this.number = number;
        }
    }

    /** A text that can't be told. */
    private static final class Faulty extends RuntimeException {
        private static final long serialVersionUID = 1L;
        final int place;

        Faulty(int place) {
            this.place = place;
        }
    }

    private record Coat(int tenant, int colour, int thick, int gap, int year) {
    }

    /** A house; the same coat may lie in many stacks, so that coats are told apart by their place in the list. */
    private static final class House {
        final int kind;
        final int a;
        final List<Coat> coats = new ArrayList<>();
        final List<List<Integer>> stacks = new ArrayList<>();

        House(int kind, int a) {
            this.kind = kind;
            this.a = a;
            for (int cell = 0; cell < 12; cell++) {
                stacks.add(new ArrayList<>());
            }
        }

        House again() {
            House other = new House(kind, a);
            other.coats.addAll(coats);
            for (int cell = 0; cell < 12; cell++) {
                other.stacks.get(cell).addAll(stacks.get(cell));
            }
            return other;
        }

        boolean isOf(int wanted) {
            for (int k = kind; k >= 0; k = ABOVE[k]) {
                if (k == wanted) {
                    return true;
                }
            }
            return false;
        }

        int put(Coat coat) {
            int place = coats.size();
            coats.add(coat);
            for (int cell = 0; cell < 12; cell++) {
                if (cell != coat.gap) {
                    stacks.get(cell).add(place);
                }
            }
            return place;
        }

        int wet(int cell, int d) {
            int wet = d;
            if (isOf(1) && d > 0) {
                wet += a;
            }
            return isOf(3) && cell >= 8 ? wet + wet : wet;
        }

        int hard(int cell, int h) {
            if (isOf(5) && cell < 4) {
                return 0;
            }
            int hard = isOf(2) ? Math.max(0, h - a) : h;
            return isOf(6) ? hard + hard : hard;
        }

        List<Integer> behind(int cell, int h) {
            List<Integer> left = new ArrayList<>(stacks.get(cell));
            int hard = hard(cell, h);
            while (!left.isEmpty() && coats.get(left.get(left.size() - 1)).thick <= hard) {
                hard -= coats.get(left.remove(left.size() - 1)).thick;
            }
            return left;
        }

        int deep(int cell) {
            return stacks.get(cell).stream().mapToInt(c -> coats.get(c).thick).sum();
        }

        int skin() {
            int sum = 0;
            for (int cell = 0; cell < 12; cell++) {
                sum += deep(cell);
            }
            return sum;
        }

        int deepest() {
            int most = 0;
            for (int cell = 0; cell < 12; cell++) {
                most = Math.max(most, deep(cell));
            }
            return most;
        }
    }

    /** All that an image takes. */
    private static final class State {
        List<House> houses = new ArrayList<>();
        int[] hides = {3, 3, 3, 3, 3, 3};
        int[] costs = {1, 1, 1, 1, 1, 1};
        int limit = 300;
        int wide = 40;
        int year = 0;
        int fell = 0;
        int seed = 1;

        State again() {
            State other = new State();
            for (House house : houses) {
                other.houses.add(house.again());
            }
            other.hides = hides.clone();
            other.costs = costs.clone();
            other.limit = limit;
            other.wide = wide;
            other.year = year;
            other.fell = fell;
            other.seed = seed;
            return other;
        }
    }

    private State st = new State();
    private State image = null;
    private final long[][] rows = new long[8][];
    private final int[] sorts = new int[8];
    private final int[] shown = {-1, -1, -1, -1, -1, -1, -1, -1};
    private final int[] refusals = new int[8];
    private int fault = -1;
    private final List<Integer> trace = new ArrayList<>();

    /** What the call of that name answers. */
    long call(String name, long... v) {
        int[] n = new int[7];
        for (int i = 0; i < v.length; i++) {
            n[i] = (int) v[i];
        }
        try {
            return answer(name, n, v);
        } catch (Refused refused) {
            refusals[refused.number]++;
            switch (name) {
                case "seen": case "razor": case "firstWet": case "paint": case "gap": case "forged":
                    return -10 - refused.number;
                case "lane":
                    return -1000 - refused.number;
                default:
                    return -refused.number;
            }
        }
    }

    private long answer(String name, int[] n, long[] v) {
        switch (name) {
            case "row": return row(n[0], n[1], n[2]);
            case "set": return set(n[0], n[1], v[2]);
            case "copy": return copy(n[0], n[1], n[2], n[3], n[4]);
            case "element": return element(n[0], n[1]);
            case "show": return show(n[0], n[1]);
            case "holds": return holds(n[0]);
            case "says": return says(n[0], n[1]);
            case "house": return house(n[0], n[1]);
            case "houseOf": return houseOf(n[0], n[1]);
            case "colour": return colour(n[0], n[1], n[2]);
            case "ask": return ask(n[0], n[1]);
            case "coat": return coat(n[0], n[1], n[2], n[3], n[4]);
            case "coatOf": return coatOf(n[0], n[1], n[2]);
            case "street": return street(n[0]);
            case "fault": return fault;
            case "seen": return seen(n[0], n[1], n[2]);
            case "wet": return wet(n[0], n[1], n[2]);
            case "deep": return deep(n[0], n[1]);
            case "skin": return at(n[0]).skin();
            case "hailed": return hailed(n[0], n[1], n[2]);
            case "razor": return razor(n[0], n[1], n[2]);
            case "hidden": return hidden(n[0], n[1]);
            case "shown": return shown(n[0], n[1]);
            case "firstWet": return firstWet(n[0], n[1]);
            case "paint": return paint(n[0], n[1], n[2]);
            case "gap": return gap(n[0], n[1]);
            case "moves": return moves(n[0], n[1]);
            case "orders": return orders(n[0], n[1], n[2]);
            case "forged": return forged(n[0], n[1]);
            case "lane": return lane(n[0], n[1]);
            case "price": return price(n[0], n[1]);
            case "hail": return hail(n[0]);
            case "scratch": return scratch(n[0], n[1]);
            case "falls": return falls();
            case "years": return years(n[0]);
            case "seed": return seed(n[0]);
            case "act": return act(n[0], n[1], n[2]);
            case "trace": return n[0] >= 0 && n[0] < Math.min(20, trace.size()) ? trace.get(n[0]) : -1;
            case "image":
                image = st.again();
                return st.houses.size();
            case "restore": return restore();
            case "status": return status(n[0]);
            default: throw new IllegalArgumentException(name);
        }
    }

    private static void when(boolean so, int number) {
        if (so) {
            throw new Refused(number);
        }
    }

    private static boolean in(int i, int from, int to) {
        return from <= i && i <= to;
    }

    private House at(int house) {
        when(!in(house, 0, st.houses.size() - 1), 1);
        return st.houses.get(house);
    }

    private static void cell(int cell) {
        when(!in(cell, 0, 11), 5);
    }

    private static void weather(int d) {
        when(!in(d, 0, 99), 6);
    }

    // ---- shelves

    private int row(int s, int sort, int n) {
        when(!in(s, 0, 7), 1);
        when(n < 0, 4);
        when(!in(sort, 0, 3), 6);
        when(n > 160, 7);
        rows[s] = new long[n];
        sorts[s] = sort;
        shown[s] = -1;
        return 1;
    }

    private void wantRow(int s) {
        when(!in(s, 0, 7), 1);
        when(shown[s] >= 0, 2);
        when(rows[s] == null, 3);
    }

    private int set(int s, int i, long v) {
        wantRow(s);
        when(!in(i, 0, rows[s].length - 1), 5);
        int unused = 64 - (8 << sorts[s]);
        rows[s][i] = v << unused >> unused;
        return 1;
    }

    private int copy(int p, int q, int i, int j, int n) {
        when(!in(p, 0, 7) || !in(q, 0, 7), 1);
        when(shown[p] >= 0 || shown[q] >= 0, 2);
        when(rows[p] != null && rows[q] != null && sorts[p] != sorts[q], 2);
        when(rows[p] == null || rows[q] == null, 3);
        when(n < 0, 4);
        when(i < 0 || j < 0 || (long) i + n > rows[p].length || (long) j + n > rows[q].length, 5);
        long[] ahead = rows[p].clone();
        for (int k = 0; k < n; k++) {
            rows[q][j + k] = ahead[i + k];
        }
        return 1;
    }

    private long element(int s, int i) {
        if (!in(s, 0, 7) || rows[s] == null || !in(i, 0, rows[s].length - 1)) {
            return 0;
        }
        return rows[s][i];
    }

    private int show(int s, int house) {
        when(!in(s, 0, 7), 1);
        if (house != -1) {
            at(house);
        }
        rows[s] = null;
        shown[s] = house;
        return house == -1 ? 0 : 1;
    }

    private int holds(int s) {
        if (!in(s, 0, 7)) {
            return -1;
        }
        return rows[s] != null ? 100 + sorts[s] : shown[s];
    }

    private int says(int s, int kind) {
        when(!in(s, 0, 7) || !in(kind, 0, 6), 1);
        when(rows[s] != null, 2);
        when(shown[s] < 0, 3);
        House house = st.houses.get(shown[s]);
        when(!house.isOf(kind), 2);
        int coats = house.coats.size();
        int[] said = {house.skin(), house.wet(0, 10), house.hard(0, 10), house.wet(8, 10),
            coats == 0 ? 0 : strength(house, house.coats.get(coats - 1)), house.hard(4, 10), house.a};
        return said[kind];
    }

    // ---- the street

    private int house(int kind, int a) {
        when(!in(kind, 0, 6), 1);
        when(!in(a, 0, 9), 6);
        when(st.houses.size() == 6, 7);
        st.houses.add(new House(kind, a));
        return st.houses.size() - 1;
    }

    private static int bits(Iterable<Integer> places) {
        int bits = 0;
        for (int place : places) {
            bits |= 1 << place;
        }
        return bits;
    }

    private int houseOf(int house, int what) {
        when(!in(house, 0, st.houses.size() - 1) || !in(what, 0, 4), 5);
        House told = st.houses.get(house);
        List<Integer> tenants = new ArrayList<>();
        for (Coat coat : told.coats) {
            tenants.add(coat.tenant);
        }
        int[] of = {told.kind, told.a, told.coats.size(), told.skin(), bits(tenants)};
        return of[what];
    }

    private int colour(int colour, int what, int v) {
        when(!in(colour, 0, 5), 1);
        when(!in(what, 0, 1), 5);
        when(!in(v, 0, what == 0 ? 9 : 99), 6);
        int[] row = what == 0 ? st.hides : st.costs;
        int was = row[colour];
        row[colour] = v;
        return was;
    }

    private int ask(int what, int v) {
        when(!in(what, 0, 1) || what == 0 && !in(v, 1, 999) || what == 1 && !in(v, 10, 99), 6);
        int was = what == 0 ? st.limit : st.wide;
        if (what == 0) {
            st.limit = v;
        } else {
            st.wide = v;
        }
        return was;
    }

    private int coat(int house, int tenant, int colour, int thick, int gap) {
        House on = at(house);
        when(!in(tenant, 0, 7) || !in(colour, 0, 5), 1);
        when(!in(thick, 1, 9) || !in(gap, 0, 11), 6);
        when(on.coats.size() == 8, 7);
        return on.put(new Coat(tenant, colour, thick, gap, st.year));
    }

    private int strength(House house, Coat coat) {
        int hides = st.hides[coat.colour];
        if (house.isOf(4)) {
            hides = Math.max(0, hides - 1);
        }
        return hides * coat.thick;
    }

    private int coatOf(int house, int coat, int what) {
        when(!in(house, 0, st.houses.size() - 1), 5);
        House told = st.houses.get(house);
        when(!in(coat, 0, told.coats.size() - 1) || !in(what, 0, 6), 5);
        Coat of = told.coats.get(coat);
        List<Integer> cells = new ArrayList<>();
        for (int cell = 0; cell < 12; cell++) {
            if (told.stacks.get(cell).contains(coat)) {
                cells.add(cell);
            }
        }
        int[] row = {of.tenant, of.colour, of.thick, of.gap, of.year, strength(told, of), bits(cells)};
        return row[what];
    }

    // ---- texts

    private int street(int s) {
        wantRow(s);
        StringBuilder text = new StringBuilder();
        for (long element : rows[s]) {
            int letter = (int) element;
            text.append(in(letter, 1, 126) ? (char) letter : (char) 127);
        }
        State before = st.again();
        fault = -1;
        try {
            return tell(text.toString());
        } catch (Faulty faulty) {
            st = before;
            fault = faulty.place;
            throw new Refused(6);
        }
    }

    private static char letter(String text, int place) {
        return place < text.length() ? text.charAt(place) : 0;
    }

    private int tell(String text) {
        int items = 0;
        int place = 0;
        while (true) {
            place = tellItem(text, place);
            items++;
            if (place == text.length()) {
                return items;
            }
            if (text.charAt(place) != ';') {
                throw new Faulty(place);
            }
            place++;
        }
    }

    private static int wordAt(String text, int place) {
        int most = 0;
        for (int w = 0; w < WORDS.length; w++) {
            if (text.startsWith(WORDS[w], place)) {
                return w;
            }
            for (int k = 1; k <= WORDS[w].length(); k++) {
                if (text.startsWith(WORDS[w].substring(0, k), place)) {
                    most = Math.max(most, k);
                }
            }
        }
        throw new Faulty(place + most);
    }

    /** Which numbers may follow the word, one after another: from, to. */
    private int[][] bounds(int word) {
        int[] house = {0, st.houses.size() - 1};
        int[] colour = {0, 5};
        switch (WORDS[word]) {
            case "house": return new int[][] {{0, 6}, {0, 9}};
            case "coat": return new int[][] {house, {0, 7}, colour, {1, 9}, {0, 11}};
            case "hides": return new int[][] {colour, {0, 9}};
            case "costs": return new int[][] {colour, {0, 99}};
            case "hail": return new int[][] {{0, 99}};
            default: return new int[][] {house, {0, 11}};
        }
    }

    private int tellItem(String text, int from) {
        int word = wordAt(text, from);
        if (word == 0 && st.houses.size() == 6) {
            throw new Faulty(from);
        }
        int place = from + WORDS[word].length();
        int[][] bounds = bounds(word);
        int[] n = new int[bounds.length];
        int[] places = new int[bounds.length];
        for (int k = 0; k < n.length; k++) {
            Matcher number = NUMBER.matcher(text).region(place, text.length());
            if (!number.lookingAt()) {
                throw new Faulty(letter(text, place) == ' ' ? place + 1 : place);
            }
            n[k] = Integer.parseInt(number.group(1));
            places[k] = number.start(1);
            place = number.end();
            boolean ninth = word == 1 && k == 0 && in(n[0], 0, st.houses.size() - 1) && st.houses.get(n[0]).coats.size() == 8;
            if (!in(n[k], bounds[k][0], bounds[k][1]) || ninth) {
                throw new Faulty(places[k]);
            }
        }
        doItem(word, n, places);
        return place;
    }

    private void doItem(int word, int[] n, int[] places) {
        switch (WORDS[word]) {
            case "house":
                st.houses.add(new House(n[0], n[1]));
                break;
            case "coat":
                st.houses.get(n[0]).put(new Coat(n[1], n[2], n[3], n[4], st.year));
                break;
            case "hides":
                st.hides[n[0]] = n[1];
                break;
            case "costs":
                st.costs[n[0]] = n[1];
                break;
            case "hail":
                hail(n[0]);
                break;
            default:
                List<Integer> stack = st.houses.get(n[0]).stacks.get(n[1]);
                if (stack.isEmpty()) {
                    throw new Faulty(places[1]);
                }
                stack.remove(stack.size() - 1);
                break;
        }
    }

    // ---- what is seen

    private int seenOf(House house, List<Integer> stack, int cell, int d) {
        for (int k = stack.size() - 1; k >= 0; k--) {
            if (strength(house, house.coats.get(stack.get(k))) >= house.wet(cell, d)) {
                return stack.get(k);
            }
        }
        return -1;
    }

    private int seen(int house, int cell, int d) {
        House of = at(house);
        cell(cell);
        weather(d);
        return seenOf(of, of.stacks.get(cell), cell, d);
    }

    private int wet(int house, int cell, int d) {
        House of = at(house);
        cell(cell);
        weather(d);
        return of.wet(cell, d);
    }

    private int deep(int house, int cell) {
        House of = at(house);
        cell(cell);
        return of.deep(cell);
    }

    private int hailed(int house, int cell, int h) {
        House of = at(house);
        cell(cell);
        weather(h);
        return bits(of.behind(cell, h));
    }

    // ---- what comes of it

    private int razor(int house, int coat, int what) {
        House of = at(house);
        when(!in(coat, 0, of.coats.size() - 1), 1);
        when(!in(what, 0, 1), 5);
        int best = -1;
        int least = -1;
        for (int cell = 11; cell >= 0; cell--) {
            List<Integer> stack = of.stacks.get(cell);
            if (stack.contains(coat)) {
                int above = 0;
                for (int k = stack.indexOf(coat) + 1; k < stack.size(); k++) {
                    above += of.coats.get(stack.get(k)).thick;
                }
                if (best < 0 || above <= least) {
                    best = cell;
                    least = above;
                }
            }
        }
        return what == 0 ? best : least;
    }

    private List<Integer> seenAnywhere(House house, int d) {
        List<Integer> all = new ArrayList<>();
        for (int cell = 0; cell < 12; cell++) {
            int seen = seenOf(house, house.stacks.get(cell), cell, d);
            if (seen >= 0) {
                all.add(seen);
            }
        }
        return all;
    }

    private int hidden(int house, int d) {
        House of = at(house);
        weather(d);
        List<Integer> seen = seenAnywhere(of, d);
        List<Integer> hidden = new ArrayList<>();
        for (int coat = 0; coat < of.coats.size(); coat++) {
            if (!seen.contains(coat)) {
                hidden.add(coat);
            }
        }
        return bits(hidden);
    }

    private int shown(int house, int h) {
        House of = at(house);
        weather(h);
        House behind = of.again();
        hailOn(behind, h);
        List<Integer> seen = seenAnywhere(behind, 0);
        seen.removeAll(seenAnywhere(of, 0));
        return bits(seen);
    }

    private int firstWet(int house, int coat) {
        House of = at(house);
        when(!in(coat, 0, of.coats.size() - 1), 1);
        int d = 0;
        while (d < 100 && !seenAnywhere(of, d).contains(coat)) {
            d++;
        }
        return d < 100 ? d : -1;
    }

    private int paint(int house, int gap, int d) {
        House of = at(house);
        when(!in(gap, 0, 11) || !in(d, 0, 99), 6);
        when(of.coats.size() == 8, 7);
        int best = -1;
        for (int colour = 5; colour >= 0; colour--) {
            for (int thick = 9; thick >= 1; thick--) {
                boolean may = hidesAll(of, new Coat(0, colour, thick, gap, 0), d);
                if (may && (best < 0 || st.costs[colour] * thick <= st.costs[best / 10] * (best % 10))) {
                    best = 10 * colour + thick;
                }
            }
        }
        return best;
    }

    private boolean hidesAll(House house, Coat coat, int d) {
        House painted = house.again();
        int place = painted.put(coat);
        for (int cell = 0; cell < 12; cell++) {
            if (cell != coat.gap && seenOf(painted, painted.stacks.get(cell), cell, d) != place) {
                return false;
            }
        }
        return true;
    }

    private int gap(int house, int tenant) {
        House of = at(house);
        when(!in(tenant, 0, 7), 1);
        int best = -1;
        for (int cell = 11; cell >= 0; cell--) {
            int seen = seenOf(of, of.stacks.get(cell), cell, 0);
            boolean theirs = seen >= 0 && of.coats.get(seen).tenant == tenant;
            if (!theirs && (best < 0 || of.deep(cell) <= of.deep(best))) {
                best = cell;
            }
        }
        return best;
    }

    private int moves(int tenant, int what) {
        when(!in(tenant, 0, 7), 1);
        when(!in(what, 0, 1), 5);
        List<Integer> at = new ArrayList<>();
        for (int house = 0; house < st.houses.size(); house++) {
            for (Coat coat : st.houses.get(house).coats) {
                if (coat.tenant == tenant) {
                    at.add(house);
                }
            }
        }
        return what == 0 ? bits(at) : at.size();
    }

    private List<int[]> pairs(int s, int n, boolean place) {
        wantRow(s);
        when(n < 0, 4);
        when(n > rows[s].length || !place, 5);
        when(n > 20, 6);
        List<int[]> pairs = new ArrayList<>();
        for (int k = 0; k < n; k++) {
            int pair = (int) rows[s][k];
            int[] both = {pair / 10, pair % 10};
            when(pair < 0 || both[0] > 7 || both[1] > 7 || both[0] == both[1], 6);
            pairs.add(both);
        }
        return pairs;
    }

    private static List<Integer> named(List<int[]> pairs) {
        List<Integer> named = new ArrayList<>();
        for (int tenant = 0; tenant < 8; tenant++) {
            for (int[] pair : pairs) {
                if ((pair[0] == tenant || pair[1] == tenant) && !named.contains(tenant)) {
                    named.add(tenant);
                }
            }
        }
        return named;
    }

    private static boolean fits(List<Integer> order, List<int[]> pairs) {
        for (int[] pair : pairs) {
            if (order.indexOf(pair[0]) < order.indexOf(pair[1])) {
                return false;
            }
        }
        return true;
    }

    /** All orders that fit, the first of them first; no more than so many. */
    private static void allOrders(List<Integer> order, List<Integer> left, List<int[]> pairs, List<List<Integer>> all, int most) {
        if (all.size() >= most) {
            return;
        }
        if (left.isEmpty() && fits(order, pairs)) {
            all.add(new ArrayList<>(order));
        }
        for (int k = 0; k < left.size(); k++) {
            List<Integer> less = new ArrayList<>(left);
            order.add(less.remove(k));
            allOrders(order, less, pairs, all, most);
            order.remove(order.size() - 1);
        }
    }

    private static List<List<Integer>> fitting(List<int[]> pairs, int most) {
        List<List<Integer>> all = new ArrayList<>();
        allOrders(new ArrayList<>(), named(pairs), pairs, all, most);
        return all;
    }

    private int orders(int s, int n, int i) {
        List<int[]> pairs = pairs(s, n, i >= -1);
        List<List<Integer>> all = fitting(pairs, i == -1 ? 50_000 : 1);
        if (i == -1) {
            return all.size();
        }
        when(all.isEmpty() || i >= all.get(0).size(), 5);
        return all.get(0).get(i);
    }

    private int forged(int s, int n) {
        List<int[]> pairs = pairs(s, n, true);
        for (int k = 0; k < n; k++) {
            if (fitting(pairs.subList(0, k + 1), 1).isEmpty()) {
                return k;
            }
        }
        return -1;
    }

    private int lane(int house, int other) {
        House one = at(house);
        House two = at(other);
        when(house == other, 6);
        return st.wide - one.deepest() - two.deepest();
    }

    private int price(int house, int d) {
        House of = at(house);
        weather(d);
        int sum = 0;
        for (int colour = 0; colour < 6; colour++) {
            boolean seen = false;
            for (int coat : seenAnywhere(of, d)) {
                seen |= of.coats.get(coat).colour == colour;
            }
            sum += seen ? st.costs[colour] : 0;
        }
        return sum;
    }

    // ---- in truth

    private static int hailOn(House house, int h) {
        int went = 0;
        for (int cell = 0; cell < 12; cell++) {
            List<Integer> left = house.behind(cell, h);
            went += house.stacks.get(cell).size() - left.size();
            house.stacks.set(cell, left);
        }
        return went;
    }

    private int hail(int h) {
        weather(h);
        int went = 0;
        for (House house : st.houses) {
            went += hailOn(house, h);
        }
        return went;
    }

    private int scratch(int house, int cell) {
        House of = at(house);
        cell(cell);
        List<Integer> stack = of.stacks.get(cell);
        when(stack.isEmpty(), 6);
        return stack.remove(stack.size() - 1);
    }

    private int falls() {
        List<Integer> fell = new ArrayList<>();
        for (int house = 0; house < st.houses.size(); house++) {
            House old = st.houses.get(house);
            if (old.skin() > st.limit) {
                st.houses.set(house, new House(old.kind, old.a));
                fell.add(house);
            }
        }
        st.fell += fell.size();
        return bits(fell);
    }

    private int draw(int n) {
        st.seed = (int) (st.seed * 1103515245L + 12345L);
        long upper = (st.seed & 0xFFFFFFFFL) / 65536;
        return (int) (upper % n);
    }

    private int years(int n) {
        when(st.houses.isEmpty(), 5);
        when(!in(n, 1, 40), 6);
        int ahead = st.fell;
        for (int k = 0; k < n; k++) {
            House house = st.houses.get(draw(st.houses.size()));
            int tenant = draw(8);
            int colour = draw(6);
            int thick = draw(9) + 1;
            Coat coat = new Coat(tenant, colour, thick, draw(12), st.year);
            if (house.coats.size() < 8) {
                house.put(coat);
            }
            hail(draw(8));
            falls();
            st.year++;
        }
        return st.fell - ahead;
    }

    private int seed(int v) {
        int was = st.seed;
        st.seed = v;
        return was;
    }

    // ---- acts

    private int act(int house, int act, int x) {
        trace.clear();
        if (!in(house, 0, st.houses.size() - 1) || !in(act, 0, 2)) {
            return 0;
        }
        return run(house, st.houses.get(house).kind, act, x);
    }

    /** The body of that act that stands at that kind, or at the next kind above that has one. */
    private int run(int house, int from, int act, int x) {
        int at = from;
        while (BODIES[at][act] == 0) {
            at = ABOVE[at];
        }
        int m = house;
        int k = st.houses.get(house).a;
        int own = st.houses.get(house).kind;
        int above = ABOVE[at];
        trace.add(BODIES[at][act]);
        switch (BODIES[at][act]) {
            case 10: return x + m;
            case 11: return run(house, own, 0, x) * 2;
            case 12:
                int peeled = run(house, own, 1, x);
                return peeled ^ run(house, own, 0, x - k);
            case 20: return run(house, above, 0, x) + k;
            case 30: return run(house, above, 1, x) * 3;
            case 40: return run(house, above, 1, x + 1);
            case 50: return -run(house, above, 2, x);
            case 51: return run(house, above, 0, x) - m;
            case 60: return run(house, above, 2, x) ^ 5;
            case 70: return run(house, above, 0, x) * 2;
            default: return run(house, above, 1, x - k);
        }
    }

    // ---- the image, the status

    private int restore() {
        when(image == null, 6);
        st = image.again();
        for (int s = 0; s < 8; s++) {
            if (shown[s] >= st.houses.size()) {
                shown[s] = -1;
            }
        }
        return st.houses.size();
    }

    private int status(int what) {
        if (in(what, 11, 17)) {
            return refusals[what - 10];
        }
        int coats = 0;
        for (House house : st.houses) {
            coats += house.coats.size();
        }
        int[] all = {st.houses.size(), coats, st.limit, st.wide, st.year, st.fell, st.seed, trace.size()};
        return in(what, 0, 7) ? all[what] : -1;
    }
}
