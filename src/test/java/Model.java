import java.math.BigInteger;
import java.util.ArrayList;
import java.util.List;
import java.util.regex.Matcher;
import java.util.regex.Pattern;

/**
 * The document once more, in the slowest and plainest way: whole towns are copied and their days
 * lived through, rows and sets are all tried. It shares no code with KitchenSiege.
 */
final class Model {
    static final int NONE = -1, BAD = -2, NO = -3, FULL = -4;

    static final class Street {
        int kind, wall, craves, since = NONE, last = NONE, run;

        Street(int kind, int wall, int craves) {
            this.kind = kind;
            this.wall = wall;
            this.craves = craves;
        }

        Street(Street o) {
            this(o.kind, o.wall, o.craves);
            since = o.since;
            last = o.last;
            run = o.run;
        }
    }

    /** A town as it stands, with the towns that were ahead of its last days. */
    static final class State {
        final List<Street> streets = new ArrayList<>();
        final boolean[][] lane = new boolean[8][8];
        int[] gate = {0, 0, 0, 0};
        int[] row = {0, 1, 2, 3};
        final List<int[]> dishes = new ArrayList<>();
        final List<int[]> notes = new ArrayList<>();
        final List<State> past = new ArrayList<>();
        int day;

        State() {
        }

        State(State o) {
            this(o, true);
        }

        State(State o, boolean withPast) {
            for (Street s : o.streets) {
                streets.add(new Street(s));
            }
            for (int a = 0; a < 8; a++) {
                lane[a] = o.lane[a].clone();
            }
            gate = o.gate.clone();
            row = o.row.clone();
            dishes.addAll(o.dishes);
            notes.addAll(o.notes);
            day = o.day;
            if (withPast) {
                past.addAll(o.past);
            }
        }

        int[] smell(int dish, int w) {
            int[] most = new int[8];
            if (gate[w] < streets.size()) {
                reach(most, gate[w], dishes.get(dish)[1] - streets.get(gate[w]).wall);
            }
            return most;
        }

        private void reach(int[] most, int street, int strong) {
            if (strong <= most[street]) {
                return;
            }
            most[street] = strong;
            for (int b = 0; b < streets.size(); b++) {
                if (lane[street][b]) {
                    reach(most, b, strong - 2 - streets.get(b).wall);
                }
            }
        }

        int wind() {
            return row[day % 4];
        }

        int moved(int dish, int street) {
            int smell = dishes.get(dish)[0];
            Street s = streets.get(street);
            return nose(s.kind, s.craves, smell, smell(dish, wind())[street], day, s.last == smell ? s.run : 0);
        }

        int pass(int dish) {
            State ahead = new State(this, false);
            past.add(ahead);
            if (past.size() > 8) {
                past.remove(0);
            }
            int opened = 0;
            int[] came = dish == NONE ? new int[8] : smell(dish, wind());
            for (int k = 0; k < streets.size(); k++) {
                Street s = streets.get(k);
                if (dish != NONE && s.since == NONE && ahead.moved(dish, k) >= 10) {
                    s.since = day;
                    opened += 1 << k;
                }
                int smell = dish == NONE ? NONE : dishes.get(dish)[0];
                if (came[k] == 0) {
                    s.last = NONE;
                    s.run = 0;
                } else if (s.last == smell) {
                    s.run++;
                } else {
                    s.last = smell;
                    s.run = 1;
                }
            }
            day++;
            return opened;
        }

        int openCount() {
            int n = 0;
            for (Street s : streets) {
                n += s.since == NONE ? 0 : 1;
            }
            return n;
        }

        /** The same town on a later day, with nothing smelt ahead. */
        State fresh(int later) {
            State t = new State(this, false);
            t.day += later;
            for (Street s : t.streets) {
                s.last = NONE;
                s.run = 0;
            }
            return t;
        }
    }

    static int nose(int kind, int craves, int smell, int strong, int day, int c) {
        if (kind == 0) {
            return craves == smell ? strong + strong : strong;
        }
        if (kind == 1) {
            return nose(0, craves, smell, strong, day, c) / 2;
        }
        if (kind == 2) {
            return smell == 0 ? 0 : nose(0, craves, smell, strong, day, c);
        }
        if (kind == 3) {
            return day % 7 == 5 ? 0 : nose(0, craves, smell, strong, day, c);
        }
        if (kind == 4) {
            int onion = nose(2, craves, smell, strong, day, c);
            return onion < 3 ? 0 : onion - 3;
        }
        int cold = nose(1, craves, smell, strong, day, c);
        return cold == 0 ? 0 : cold + 2 * c;
    }

    State s = new State();
    final State[] images = new State[2];
    String text = "";
    BigInteger above = BigInteger.ZERO, below = BigInteger.ONE;
    final int[] refused = new int[3];

    private int bad() {
        refused[0]++;
        return BAD;
    }

    private int no() {
        refused[1]++;
        return NO;
    }

    private int full() {
        refused[2]++;
        return FULL;
    }

    private boolean noStreet(int k) {
        return k < 0 || k >= s.streets.size();
    }

    private boolean noDish(int d) {
        return d < 0 || d >= s.dishes.size();
    }

    private static boolean out(int v, int low, int high) {
        return v < low || v > high;
    }

    int town() {
        int n = s.streets.size();
        s = new State();
        return n;
    }

    int street(int kind, int wall, int craves) {
        if (out(kind, 0, 5) || out(wall, 0, 9) || out(craves, 0, 5)) {
            return bad();
        }
        if (s.streets.size() == 8) {
            return full();
        }
        s.streets.add(new Street(kind, wall, craves));
        s.past.clear();
        return s.streets.size() - 1;
    }

    int lane(int a, int b) {
        if (noStreet(a) || noStreet(b) || a == b) {
            return bad();
        }
        if (s.lane[a][b]) {
            return no();
        }
        s.lane[a][b] = s.lane[b][a] = true;
        return 1;
    }

    int gate(int w, int street) {
        if (out(w, 0, 3) || noStreet(street)) {
            return bad();
        }
        int was = s.gate[w];
        s.gate[w] = street;
        return was;
    }

    int wind(int i, int w) {
        if (out(i, 0, 3) || out(w, 0, 3)) {
            return bad();
        }
        int was = s.row[i];
        s.row[i] = w;
        return was;
    }

    int dish(int smell, int strong, int butter) {
        if (out(smell, 0, 5) || out(strong, 1, 30) || out(butter, 0, 9)) {
            return bad();
        }
        if (s.dishes.size() == 6) {
            return full();
        }
        s.dishes.add(new int[] {smell, strong, butter});
        return s.dishes.size() - 1;
    }

    int type(int c) {
        if (out(c, 0, 127)) {
            return bad();
        }
        if (text.length() == 150) {
            return full();
        }
        text += (char) c;
        return text.length();
    }

    int clear() {
        int n = text.length();
        text = "";
        return n;
    }

    int read() {
        List<String> tokens = new ArrayList<>();
        List<Integer> places = new ArrayList<>();
        Matcher m = Pattern.compile("[a-z]+|[0-9]+| +|.", Pattern.DOTALL).matcher(text);
        while (m.find()) {
            if (m.group().charAt(0) != ' ') {
                tokens.add(m.group());
                places.add(m.start());
            }
        }
        places.add(text.length());
        State t = new State();
        int at = 0;
        int items = 0;
        if (tokens.isEmpty()) {
            return -10 - text.length();
        }
        while (at < tokens.size()) {
            String word = tokens.get(at);
            boolean first = items == 0;
            int[][] told;
            int ways = t.streets.size() - 1;
            if (word.equals("town") && first) {
                told = new int[][] {};
            } else if (first) {
                return -10 - places.get(at);
            } else if (word.equals("street") && ways < 7) {
                told = new int[][] {{0, 5}, {0, 9}, {0, 5}};
            } else if (word.equals("lane")) {
                told = new int[][] {{0, ways}, {0, ways}};
            } else if (word.equals("gate")) {
                told = new int[][] {{0, 3}, {0, ways}};
            } else if (word.equals("wind")) {
                told = new int[][] {{0, 3}, {0, 3}};
            } else if (word.equals("dish") && t.dishes.size() < 6) {
                told = new int[][] {{0, 5}, {1, 30}, {0, 9}};
            } else {
                return -10 - places.get(at);
            }
            at++;
            int[] v = new int[told.length];
            for (int i = 0; i < told.length; i++) {
                if (at == tokens.size() || !tokens.get(at).matches("[0-9]{1,2}")) {
                    return -10 - places.get(at);
                }
                v[i] = Integer.parseInt(tokens.get(at));
                if (out(v[i], told[i][0], told[i][1]) || word.equals("lane") && i == 1 && v[0] == v[1]) {
                    return -10 - places.get(at);
                }
                at++;
            }
            if (at == tokens.size() || !tokens.get(at).equals(";")) {
                return -10 - places.get(at);
            }
            at++;
            items++;
            switch (word) {
                case "street" -> t.streets.add(new Street(v[0], v[1], v[2]));
                case "lane" -> t.lane[v[0]][v[1]] = t.lane[v[1]][v[0]] = true;
                case "gate" -> t.gate[v[0]] = v[1];
                case "wind" -> t.row[v[0]] = v[1];
                case "dish" -> t.dishes.add(v);
                default -> { }
            }
        }
        s = t;
        return items;
    }

    int day(int dish) {
        return dish != NONE && noDish(dish) ? bad() : s.pass(dish);
    }

    int undo() {
        if (s.past.isEmpty()) {
            return no();
        }
        State old = s.past.remove(s.past.size() - 1);
        for (int k = 0; k < s.streets.size(); k++) {
            Street now = s.streets.get(k);
            Street then = old.streets.get(k);
            now.since = then.since;
            now.last = then.last;
            now.run = then.run;
        }
        s.day = old.day;
        return s.day;
    }

    int of(int street, int what) {
        if (noStreet(street) || out(what, 0, 5)) {
            bad();
            return -10;
        }
        Street k = s.streets.get(street);
        return new int[] {k.kind, k.wall, k.craves, k.since, k.last, k.run}[what];
    }

    int smells(int dish, int w, int street) {
        return noDish(dish) || out(w, 0, 3) || noStreet(street) ? bad() : s.smell(dish, w)[street];
    }

    int moved(int dish, int street) {
        return noDish(dish) || noStreet(street) ? bad() : s.moved(dish, street);
    }

    int falls(int dish, int street) {
        if (noDish(dish) || noStreet(street)) {
            return bad();
        }
        State t = new State(s, false);
        for (int days = 0; days <= 30; days++) {
            if (t.streets.get(street).since != NONE) {
                return days;
            }
            t.pass(dish);
        }
        return NONE;
    }

    private void rows(State t, List<Integer> row, int street, List<List<Integer>> found) {
        if (t.streets.get(street).since != NONE) {
            found.add(new ArrayList<>(row));
            return;
        }
        if (row.size() == 4) {
            return;
        }
        for (int d = 0; d < s.dishes.size(); d++) {
            if (!row.contains(d)) {
                State next = new State(t, false);
                next.pass(d);
                row.add(d);
                rows(next, row, street, found);
                row.remove(row.size() - 1);
            }
        }
    }

    private int butter(List<Integer> row) {
        int sum = 0;
        for (int d : row) {
            sum += s.dishes.get(d)[2];
        }
        return sum;
    }

    private static int compareRows(List<Integer> a, List<Integer> b) {
        for (int i = 0; i < a.size() && i < b.size(); i++) {
            if (!a.get(i).equals(b.get(i))) {
                return a.get(i) - b.get(i);
            }
        }
        return a.size() - b.size();
    }

    int order(int street, int i) {
        if (noStreet(street) || i < -2) {
            bad();
            return -10;
        }
        List<List<Integer>> found = new ArrayList<>();
        rows(s, new ArrayList<>(), street, found);
        if (found.isEmpty()) {
            return NONE;
        }
        found.sort((a, b) -> a.size() != b.size() ? a.size() - b.size()
            : butter(a) != butter(b) ? butter(a) - butter(b) : compareRows(a, b));
        List<Integer> best = found.get(0);
        if (i == -1) {
            return best.size();
        }
        if (i == -2) {
            return butter(best);
        }
        return i < best.size() ? best.get(i) : -5;
    }

    private boolean opensAlone(int dish, int street, int days) {
        for (int d = 0; d < days; d++) {
            if (s.fresh(d).moved(dish, street) >= 10) {
                return true;
            }
        }
        return false;
    }

    int never() {
        int bits = 0;
        for (int k = 0; k < s.streets.size(); k++) {
            boolean ever = s.streets.get(k).since != NONE;
            for (int d = 0; d < s.dishes.size(); d++) {
                ever = ever || opensAlone(d, k, 28);
            }
            bits += ever ? 0 : 1 << k;
        }
        return bits;
    }

    int least() {
        int best = NONE;
        int[] bestCost = null;
        boolean[][] opens = new boolean[6][8];
        for (int d = 0; d < s.dishes.size(); d++) {
            for (int k = 0; k < s.streets.size(); k++) {
                opens[d][k] = opensAlone(d, k, 4);
            }
        }
        for (int set = 0; set < 1 << s.dishes.size(); set++) {
            boolean all = true;
            for (int k = 0; k < s.streets.size(); k++) {
                boolean one = s.streets.get(k).since != NONE;
                for (int d = 0; d < s.dishes.size(); d++) {
                    one = one || (set >> d) % 2 == 1 && opens[d][k];
                }
                all = all && one;
            }
            int[] cost = new int[2];
            for (int d = 0; d < s.dishes.size(); d++) {
                if ((set >> d) % 2 == 1) {
                    cost[0] += s.dishes.get(d)[2];
                    cost[1]++;
                }
            }
            if (all && (best == NONE || cost[0] < bestCost[0] || cost[0] == bestCost[0] && cost[1] < bestCost[1])) {
                best = set;
                bestCost = cost;
            }
        }
        return best;
    }

    private int opening(int dish, int hung, int n) {
        State t = new State(s, false);
        if (hung != NONE) {
            t.streets.get(hung).wall += n;
        }
        return Integer.bitCount(t.pass(dish));
    }

    int answer(int dish, int n, int what) {
        if (noDish(dish) || out(n, 0, 9) || out(what, 0, 1)) {
            return bad();
        }
        int best = NONE;
        for (int k = 0; k < s.streets.size(); k++) {
            if (s.streets.get(k).since == NONE && (best == NONE || opening(dish, k, n) < opening(dish, best, n))) {
                best = k;
            }
        }
        return best == NONE ? NONE : what == 0 ? best : opening(dish, best, n);
    }

    int game(int n) {
        if (out(n, 0, 9)) {
            return bad();
        }
        int pairs = 0;
        int[][] v = new int[s.dishes.size() + 1][s.streets.size() + 1];
        for (int d = 0; d < v.length; d++) {
            for (int k = 0; k < v[d].length; k++) {
                v[d][k] = opening(d - 1, k - 1, n);
            }
        }
        for (int d = 0; d < v.length; d++) {
            for (int k = 0; k < v[d].length; k++) {
                boolean rests = true;
                for (int[] other : v) {
                    rests = rests && other[k] <= v[d][k];
                }
                for (int other : v[d]) {
                    rests = rests && other >= v[d][k];
                }
                pairs += rests ? 1 : 0;
            }
        }
        return pairs;
    }

    int note(int street, int smell, int strong, int day, int opened) {
        if (noStreet(street) || out(smell, 0, 5) || out(strong, 1, 60) || out(day, 0, 99) || out(opened, 0, 1)) {
            return bad();
        }
        if (s.notes.size() == 6) {
            return full();
        }
        s.notes.add(new int[] {street, smell, strong, day, opened});
        return s.notes.size();
    }

    int forget() {
        int n = s.notes.size();
        s.notes.clear();
        return n;
    }

    private List<Integer> may(int street, int kind) {
        List<Integer> may = new ArrayList<>();
        for (int x = 0; x < 6; x++) {
            boolean so = true;
            for (int[] n : s.notes) {
                so = so && (n[0] != street || (nose(kind, x, n[1], n[2], n[3], 0) >= 10 ? 1 : 0) == n[4]);
            }
            if (so) {
                may.add(x);
            }
        }
        return may;
    }

    int craved(int street) {
        if (noStreet(street)) {
            return bad();
        }
        int bits = 0;
        for (int x : may(street, s.streets.get(street).kind)) {
            bits += 1 << x;
        }
        return bits;
    }

    int is(int street) {
        if (noStreet(street)) {
            return bad();
        }
        int bits = 0;
        for (int kind = 0; kind < 6; kind++) {
            bits += may(street, kind).isEmpty() ? 0 : 1 << kind;
        }
        return bits;
    }

    int tryNext(int street, int strong, int day) {
        if (noStreet(street) || out(strong, 1, 60) || out(day, 0, 99)) {
            return bad();
        }
        int kind = s.streets.get(street).kind;
        List<Integer> may = may(street, kind);
        int best = NONE;
        int bestWorst = 0;
        for (int smell = 5; smell >= 0 && !may.isEmpty(); smell--) {
            int would = 0;
            int not = 0;
            for (int x : may) {
                if (nose(kind, x, smell, strong, day, 0) >= 10) {
                    would++;
                } else {
                    not++;
                }
            }
            int worst = would > not ? would : not;
            if (best == NONE || worst <= bestWorst) {
                best = smell;
                bestWorst = worst;
            }
        }
        return best;
    }

    int rain(int dish, int c, int n) {
        if (noDish(dish) || out(c, 0, 10) || out(n, 0, 8)) {
            return bad();
        }
        int would = new State(s, false).pass(dish);
        BigInteger ways = BigInteger.ZERO;
        BigInteger all = BigInteger.TEN.pow(8);
        for (int dry = 0; dry < 256; dry++) {
            if (Integer.bitCount(dry & would) >= n) {
                int k = Integer.bitCount(dry);
                ways = ways.add(BigInteger.valueOf(10 - c).pow(k).multiply(BigInteger.valueOf(c).pow(8 - k)));
            }
        }
        BigInteger g = ways.gcd(all);
        above = ways.divide(g);
        below = all.divide(g);
        return 1;
    }

    int sieges(int seed, int n) {
        if (out(seed, 0, 999999) || out(n, 0, 60)) {
            return bad();
        }
        State t = new State(s, false);
        BigInteger x = BigInteger.valueOf(seed);
        for (int k = 0; k < n; k++) {
            x = x.multiply(BigInteger.valueOf(1103515245)).add(BigInteger.valueOf(12345))
                .mod(BigInteger.valueOf(2147483648L));
            int dish = x.divide(BigInteger.valueOf(65536)).mod(BigInteger.valueOf(7)).intValue();
            t.pass(noDish(dish) ? NONE : dish);
        }
        return t.openCount();
    }

    long part(int what) {
        return what == 0 ? above.longValue() : what == 1 ? below.longValue() : bad();
    }

    int image(int i) {
        if (out(i, 0, 1)) {
            return bad();
        }
        images[i] = new State(s);
        return 1;
    }

    int from(int i) {
        if (out(i, 0, 1)) {
            return bad();
        }
        if (images[i] == null) {
            return no();
        }
        s = new State(images[i]);
        return 1;
    }

    int status(int what) {
        if (out(what, 0, 2)) {
            bad();
            return -1;
        }
        return refused[what];
    }

    int count(int what) {
        if (out(what, 0, 6)) {
            return bad();
        }
        return new int[] {s.streets.size(), s.dishes.size(), s.day, s.openCount(), s.notes.size(), s.past.size(),
            text.length()}[what];
    }

    long digest() {
        List<Long> v = new ArrayList<>();
        for (int i = 0; i <= 6; i++) {
            v.add((long) count(i));
        }
        for (Street k : s.streets) {
            for (int x : new int[] {k.kind, k.wall, k.craves, k.since, k.last, k.run}) {
                v.add((long) x);
            }
        }
        for (int a = 0; a < 8; a++) {
            for (int b = a + 1; b < 8; b++) {
                v.add(s.lane[a][b] ? 1L : 0L);
            }
        }
        for (int x : s.gate) {
            v.add((long) x);
        }
        for (int x : s.row) {
            v.add((long) x);
        }
        for (int[] d : s.dishes) {
            for (int x : d) {
                v.add((long) x);
            }
        }
        for (int[] n : s.notes) {
            for (int x : n) {
                v.add((long) x);
            }
        }
        v.add(above.longValue());
        v.add(below.longValue());
        long h = 1069;
        for (long x : v) {
            h = 31 * h + x;
        }
        return h;
    }
}
