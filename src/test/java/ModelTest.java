import java.util.ArrayDeque;
import java.util.ArrayList;
import java.util.Arrays;
import java.util.Deque;
import java.util.HashMap;
import java.util.List;
import java.util.Map;
import java.util.Random;
import java.util.TreeMap;
import java.util.regex.Matcher;
import java.util.regex.Pattern;

/**
 * Runs of calls drawn with a fixed seed, answered by BellLots and by a second program that was written from the
 * document alone, by trying all ways where BellLots is clever. The first answer that differs is told with its run.
 */
public final class ModelTest {
    private static final int RUNS = 1500, CALLS = 512;
    private static final int BAD = -1, STATE = -2, FULL = -3, NONE = -9, NO = -1000000;

    /** NOW. */
    private static final class Moment {
        int term, cut;
        int[] bells = {}, towers = {}, oaths = {};
        int[][] strokes = {};

        Moment copy() {
            Moment m = new Moment();
            m.term = term;
            m.cut = cut;
            m.bells = bells.clone();
            m.towers = towers.clone();
            m.oaths = oaths.clone();
            m.strokes = Arrays.stream(strokes).map(int[]::clone).toArray(int[][]::new);
            return m;
        }
    }

    private static final class Model {
        final StringBuilder text = new StringBuilder();
        List<int[]> towns = new ArrayList<>();
        Map<String, Integer> roads = new TreeMap<>();
        List<int[]> sworn = new ArrayList<>();
        Moment m = new Moment();
        final Deque<Moment> past = new ArrayDeque<>();
        final Map<Integer, Moment> images = new HashMap<>();
        final List<int[]> finds = new ArrayList<>();
        long trace;

        boolean town(int t) {
            return t >= 0 && t < towns.size();
        }

        static String road(int a, int b) {
            return Math.min(a, b) + "-" + Math.max(a, b);
        }

        int weight(int b) {
            return towns.get(b)[1];
        }

        int where(int bell) {
            return Arrays.stream(m.bells).boxed().toList().indexOf(bell);
        }

        // ---- the text

        int plain() {
            List<int[]> newTowns = new ArrayList<>(), newSworn = new ArrayList<>();
            Map<String, Integer> newRoads = new TreeMap<>();
            Matcher tokens = Pattern.compile("[0-9]+|[^ ]", Pattern.DOTALL).matcher(text);
            List<String> item = new ArrayList<>();
            int items = 0;
            while (tokens.find()) {
                String token = tokens.group();
                if (!stands(item, token, newTowns.size(), newSworn.size())) {
                    return -10 - tokens.start();
                }
                item.add(token);
                if (token.equals(";")) {
                    items++;
                    int[] n = item.subList(1, 4).stream().mapToInt(Integer::parseInt).toArray();
                    if (item.get(0).equals("t")) {
                        newTowns.add(n);
                    } else if (item.get(0).equals("d")) {
                        newRoads.put(road(n[0], n[1]), n[2]);
                    } else {
                        newSworn.add(n);
                    }
                    item.clear();
                }
            }
            if (!item.isEmpty()) {
                return -10 - text.length();
            }
            towns = newTowns;
            roads = newRoads;
            sworn = newSworn;
            m = new Moment();
            int n = towns.size();
            m.bells = new int[n];
            m.towers = new int[n];
            m.oaths = new int[sworn.size()];
            m.strokes = new int[n][n];
            for (int t = 0; t < n; t++) {
                m.bells[t] = t;
                m.towers[t] = Math.max(towns.get(t)[0], towns.get(t)[1]);
            }
            past.clear();
            images.clear();
            finds.clear();
            text.setLength(0);
            return items;
        }

        static boolean stands(List<String> item, String token, int towns, int oaths) {
            if (item.isEmpty()) {
                return token.equals("t") && towns < 6 || token.equals("d") || token.equals("o") && oaths < 6;
            }
            if (item.size() == 4) {
                return token.equals(";");
            }
            if (!token.matches("0|[1-9][0-9]?")) {
                return false;
            }
            int n = Integer.parseInt(token);
            switch (item.get(0) + item.size()) {
                case "t1": case "t2": return n >= 1;
                case "t3": return n <= 6;
                case "d2": return n < towns && n != Integer.parseInt(item.get(1));
                case "d3": return n >= 1 && n <= 9;
                case "o3": return n <= 60;
                default: return n < towns;
            }
        }

        // ---- lots

        int[] lot(int z) {
            int n = towns.size();
            List<Integer> left = new ArrayList<>();
            for (int t = 0; t < n; t++) {
                left.add(t);
            }
            int[] from = new int[n];
            for (int t = 0; t < n; t++) {
                long x = 7919L * z + 6151L * t + 1;
                from[t] = left.remove((int) ((x * x) % 65521 / 16 % left.size()));
            }
            return from;
        }

        int cut(Moment at) {
            int many = 0;
            for (int t = 0; t < at.bells.length; t++) {
                if (at.towers[t] < weight(at.bells[t])) {
                    at.towers[t] = weight(at.bells[t]);
                    many++;
                }
            }
            at.cut += many;
            return many;
        }

        int pass(Moment at, int z) {
            int[] old = at.bells.clone(), from = lot(z);
            for (int i = 0; i < sworn.size(); i++) {
                if (sworn.get(i)[2] == at.term) {
                    at.oaths[i] = old[sworn.get(i)[1]] == sworn.get(i)[0] ? 1 : 2;
                }
            }
            for (int t = 0; t < old.length; t++) {
                at.strokes[old[t]][t]++;
                at.bells[t] = old[from[t]];
            }
            at.term++;
            return cut(at);
        }

        void remember() {
            past.addLast(m.copy());
            if (past.size() > 10) {
                past.removeFirst();
            }
        }

        // ---- ways

        /** By all ways that come through no TOWN twice. */
        int far(int a, int b, int seen) {
            if (a == b) {
                return 0;
            }
            int least = NONE;
            for (int c = 0; c < towns.size(); c++) {
                Integer toll = roads.get(road(a, c));
                if (toll != null && (seen >> c & 1) == 0) {
                    int rest = far(c, b, seen | 1 << c);
                    if (rest != NONE && (least == NONE || rest + toll < least)) {
                        least = rest + toll;
                    }
                }
            }
            return least;
        }

        int far(int a, int b) {
            return far(a, b, 1 << a);
        }

        /** All orders of the numbers below n, the first by numbers first. */
        static List<int[]> orders(int n) {
            List<int[]> all = new ArrayList<>();
            addOrders(all, new int[n], 0);
            return all;
        }

        static void addOrders(List<int[]> all, int[] order, int filled) {
            if (filled == order.length) {
                all.add(order.clone());
                return;
            }
            for (int b = 0; b < order.length; b++) {
                int bell = b;
                if (Arrays.stream(order, 0, filled).noneMatch(x -> x == bell)) {
                    order[filled] = b;
                    addOrders(all, order, filled + 1);
                }
            }
        }

        boolean cutsNone(int[] order) {
            for (int t = 0; t < order.length; t++) {
                if (m.towers[t] < weight(order[t])) {
                    return false;
                }
            }
            return true;
        }

        int price(int[] order) {
            int sum = 0;
            for (int t = 0; t < order.length; t++) {
                int way = far(where(order[t]), t);
                if (way == NONE) {
                    return NONE;
                }
                sum += way * weight(order[t]);
            }
            return sum;
        }

        int hang(int t) {
            int least = NONE;
            int[] best = null;
            for (int[] order : orders(towns.size())) {
                if (cutsNone(order)) {
                    int price = price(order);
                    if (price != NONE && (least == NONE || price < least)) {
                        least = price;
                        best = order;
                    }
                }
            }
            return t == -1 || best == null ? least : best[t];
        }

        int odds(int what) {
            List<int[]> all = orders(towns.size());
            int upper = (int) all.stream().filter(this::cutsNone).count(), lower = all.size();
            for (int d = lower; d > 1; d--) {
                if (upper % d == 0 && lower % d == 0) {
                    upper /= d;
                    lower /= d;
                }
            }
            return what == 0 ? upper : lower;
        }

        int tradesHome() {
            int[] bells = m.bells.clone();
            int many = 0;
            for (int t = 0; t < bells.length; t++) {
                for (int u = t + 1; u < bells.length; u++) {
                    if (bells[u] == t) {
                        bells[u] = bells[t];
                        bells[t] = t;
                        many++;
                    }
                }
            }
            return many;
        }

        int round(int z) {
            int[] from = lot(z), bells = m.bells;
            for (int many = 1; ; many++) {
                int[] next = new int[from.length];
                for (int t = 0; t < from.length; t++) {
                    next[t] = bells[from[t]];
                }
                bells = next;
                if (Arrays.equals(bells, m.bells)) {
                    return many;
                }
            }
        }

        boolean explains(int z) {
            int[] from = lot(z);
            return finds.stream().allMatch(f -> m.bells[from[f[1]]] == f[0]);
        }

        int dumb() {
            int bits = 0;
            for (String road : roads.keySet()) {
                int a = road.charAt(0) - '0', b = road.charAt(2) - '0';
                if (towns.get(m.bells[a])[2] == towns.get(m.bells[b])[2]) {
                    bits |= 1 << a | 1 << b;
                }
            }
            return bits;
        }

        int home() {
            int bits = 0;
            for (int t = 0; t < m.bells.length; t++) {
                bits |= m.bells[t] == t ? 1 << t : 0;
            }
            return bits;
        }

        int fits(int b) {
            int bits = 0;
            for (int t = 0; t < m.towers.length; t++) {
                bits |= m.towers[t] >= weight(b) ? 1 << t : 0;
            }
            return bits;
        }

        int crossed() {
            for (int i = 0; i < sworn.size(); i++) {
                for (int j = i + 1; j < sworn.size(); j++) {
                    int[] p = sworn.get(i), q = sworn.get(j);
                    if (p[2] == q[2] && (p[0] == q[0] && p[1] != q[1] || p[1] == q[1] && p[0] != q[0])) {
                        return 10 * i + j;
                    }
                }
            }
            return NONE;
        }

        int rate(int kind, int b) {
            int weight = weight(b), note = towns.get(b)[2], cracked = weight - m.towers[where(b)];
            int[] rates = {weight, weight + note, cracked, 2 * (weight + note), cracked + b, weight + m.term};
            trace += new int[] {1, 11, 101, 1011, 10101, 100001}[kind];
            return rates[kind];
        }

        // ---- the calls

        long answer(String call, int a, int b, int c) {
            boolean z = a >= 0 && a <= 9999;
            switch (call) {
                case "type":
                    if (a < 0 || a > 255) {
                        return BAD;
                    }
                    return text.length() == 200 ? FULL : text.append((char) a).length();
                case "clear": {
                    int had = text.length();
                    text.setLength(0);
                    return had;
                }
                case "plain": return plain();
                case "town":
                    return !town(a) || b < 0 || b > 3 ? BAD
                        : new int[] {m.towers[a], m.bells[a], where(a), dumb() >> a & 1}[b];
                case "bell":
                    return !town(a) || b < 0 || b > 3 ? BAD : new int[] {weight(a), towns.get(a)[2], where(a), fits(a)}[b];
                case "far": return town(a) && town(b) ? far(a, b) : BAD;
                case "oath":
                    if (a < 0 || a >= sworn.size() || b < 0 || b > 3) {
                        return BAD;
                    }
                    return b == 3 ? m.oaths[a] : sworn.get(a)[b];
                case "now": return a < 0 || a > 4 ? BAD : new int[] {m.term, m.cut, home(), dumb(), past.size()}[a];
                case "lots":
                    if (!z || m.term == 60) {
                        return z ? STATE : BAD;
                    }
                    remember();
                    return pass(m, a);
                case "trades": {
                    if (!town(a) || !town(b) || a == b) {
                        return BAD;
                    }
                    remember();
                    int bell = m.bells[a];
                    m.bells[a] = m.bells[b];
                    m.bells[b] = bell;
                    return cut(m);
                }
                case "widens": {
                    if (!town(a) || b < 1 || b > 99) {
                        return BAD;
                    }
                    if (weight(m.bells[a]) > b) {
                        return STATE;
                    }
                    remember();
                    int bore = m.towers[a];
                    m.towers[a] = b;
                    return bore;
                }
                case "undo":
                    if (past.isEmpty()) {
                        return STATE;
                    }
                    m = past.removeLast();
                    return past.size();
                default: return answerMore(call, a, b, c);
            }
        }

        long answerMore(String call, int a, int b, int c) {
            boolean z = a >= 0 && a <= 9999;
            switch (call) {
                case "inLots": {
                    if (!z || b < 0 || b > 20 || c != -1 && !town(c)) {
                        return BAD;
                    }
                    Moment then = m.copy();
                    for (int i = 0; i < b; i++) {
                        pass(then, (a + i) % 10000);
                    }
                    return c == -1 ? then.cut - m.cut : then.bells[c];
                }
                case "cost": {
                    if (!z) {
                        return BAD;
                    }
                    Moment then = m.copy();
                    pass(then, a);
                    return price(then.bells);
                }
                case "home":
                    if (a == 1) {
                        for (int t = 0; t < m.bells.length; t++) {
                            if (m.bells[t] != t) {
                                return 10 * t + where(t);
                            }
                        }
                        return NONE;
                    }
                    return a == 0 ? tradesHome() : BAD;
                case "hang": return a == -1 || town(a) ? hang(a) : BAD;
                case "round": return z ? round(a) : BAD;
                case "crossed": return crossed();
                case "oaths": return a < 0 || a > 2 ? BAD : Arrays.stream(m.oaths).filter(x -> x == a).count();
                case "strokes": return town(a) && town(b) ? m.strokes[a][b] : BAD;
                case "found":
                    if (!town(a) || !town(b)) {
                        return BAD;
                    }
                    if (finds.size() == 5) {
                        return FULL;
                    }
                    finds.add(new int[] {a, b});
                    return finds.size();
                case "forget": {
                    int had = finds.size();
                    finds.clear();
                    return had;
                }
                case "which": {
                    int[] all = java.util.stream.IntStream.range(0, 1000).filter(this::explains).toArray();
                    return a == 0 ? all.length : a != 1 ? BAD : all.length == 0 ? NONE : all[0];
                }
                case "odds": return a == 0 || a == 1 ? odds(a) : BAD;
                case "rate": return a < 0 || a > 5 || !town(b) ? NO : rate(a, b);
                case "keep":
                    if (a != 0 && a != 1) {
                        return BAD;
                    }
                    images.put(a, m.copy());
                    return m.term;
                case "back":
                    if (a != 0 && a != 1) {
                        return BAD;
                    }
                    if (!images.containsKey(a)) {
                        return STATE;
                    }
                    m = images.get(a).copy();
                    past.clear();
                    return m.term;
                case "count":
                    return a < 0 || a > 4 ? BAD
                        : new int[] {towns.size(), roads.size(), sworn.size(), finds.size(), text.length()}[a];
                case "trace": return trace;
                default: throw new IllegalArgumentException(call);
            }
        }
    }

    private static long ask(BellLots x, String call, int a, int b, int c) {
        switch (call) {
            case "type": return x.type(a);
            case "clear": return x.clear();
            case "plain": return x.plain();
            case "town": return x.town(a, b);
            case "bell": return x.bell(a, b);
            case "far": return x.far(a, b);
            case "oath": return x.oath(a, b);
            case "now": return x.now(a);
            case "lots": return x.lots(a);
            case "trades": return x.trades(a, b);
            case "widens": return x.widens(a, b);
            case "undo": return x.undo();
            case "inLots": return x.inLots(a, b, c);
            case "cost": return x.cost(a);
            case "home": return x.home(a);
            case "hang": return x.hang(a);
            case "round": return x.round(a);
            case "crossed": return x.crossed();
            case "oaths": return x.oaths(a);
            case "strokes": return x.strokes(a, b);
            case "found": return x.found(a, b);
            case "forget": return x.forget();
            case "which": return x.which(a);
            case "odds": return x.odds(a);
            case "rate": return x.rate(a, b);
            case "keep": return x.keep(a);
            case "back": return x.back(a);
            case "count": return x.count(a);
            case "trace": return x.trace();
            default: throw new IllegalArgumentException(call);
        }
    }

    // ---- what is asked

    private static final String[] CALLS_MIXED = {
        "town", "town", "bell", "far", "oath", "now", "now", "lots", "lots", "lots", "lots", "trades", "trades",
        "trades", "widens", "widens", "undo", "undo", "inLots", "inLots", "cost", "home", "hang", "round", "crossed",
        "oaths", "strokes", "found", "forget", "which", "odds", "rate", "rate", "keep", "back", "count", "trace",
        "clear", "plain",
    };

    private static String text(Random r) {
        StringBuilder s = new StringBuilder();
        int towns = r.nextInt(8) == 0 ? 7 : r.nextInt(7), roads = r.nextInt(9), oaths = r.nextInt(7);
        int heaviest = r.nextBoolean() ? 99 : 1 + r.nextInt(9);
        for (int i = 0; i < towns; i++) {
            item(s, r, "t", 1 + r.nextInt(heaviest), 1 + r.nextInt(heaviest), r.nextInt(3));
        }
        for (int i = 0; i < roads && towns > 1; i++) {
            int a = r.nextInt(towns);
            item(s, r, "d", a, (a + 1 + r.nextInt(towns - 1)) % towns, 1 + r.nextInt(9));
        }
        int lastTerm = r.nextInt(4) == 0 ? 60 : 3;
        for (int i = 0; i < oaths && towns > 0; i++) {
            item(s, r, "o", r.nextInt(towns), r.nextInt(towns), r.nextInt(lastTerm + 1));
        }
        if (r.nextInt(3) == 0 && s.length() > 0) {
            spoil(s, r);
        }
        return s.toString();
    }

    private static void item(StringBuilder s, Random r, String kind, int a, int b, int c) {
        String gap = r.nextInt(4) == 0 ? " " : "";
        s.append(kind).append(gap).append(a).append(' ').append(b).append(gap).append(' ').append(c).append(gap);
        s.append(';').append(gap);
    }

    private static void spoil(StringBuilder s, Random r) {
        String signs = "tdo; 0123456789x;;  tdo";
        int place = r.nextInt(s.length());
        switch (r.nextInt(4)) {
            case 0: s.setLength(place); break;
            case 1: s.deleteCharAt(place); break;
            case 2: s.insert(place, signs.charAt(r.nextInt(signs.length()))); break;
            default: s.setCharAt(place, signs.charAt(r.nextInt(signs.length())));
        }
    }

    private static int number(Random r, String call, int place) {
        if (r.nextInt(60) == 0) {
            int[] odd = {-2, -1, 7, 99, 100, 9999, 10000, Integer.MIN_VALUE, Integer.MAX_VALUE};
            return odd[r.nextInt(odd.length)];
        }
        boolean byLot = call.equals("lots") || call.equals("cost") || call.equals("round") || call.equals("inLots");
        if (place == 0 && byLot) {
            return r.nextInt(5) == 0 ? 9980 + r.nextInt(20) : r.nextInt(10000);
        }
        if (place == 1 && call.equals("widens")) {
            return 1 + r.nextInt(r.nextBoolean() ? 99 : 9);
        }
        if (place == 1 && call.equals("inLots")) {
            return r.nextInt(21);
        }
        if (place == 2 || call.equals("hang")) {
            return r.nextInt(7) - 1;
        }
        boolean choice = call.equals("home") || call.equals("which") || call.equals("odds") || call.equals("keep")
            || call.equals("back");
        return r.nextInt(choice ? 3 : r.nextInt(3) == 0 ? 7 : 4);
    }

    private static boolean run(int seed) {
        Random r = new Random(seed);
        BellLots x = new BellLots();
        Model model = new Model();
        StringBuilder said = new StringBuilder();
        String typing = r.nextInt(10) == 0 ? "" : text(r);
        int typed = 0;
        // some runs hardly ever turn back, so that they come to the last TERM
        boolean ahead = r.nextInt(3) == 0;
        for (int n = 0; n < CALLS; n++) {
            String call;
            int a = 0, b = 0, c = 0;
            if (typed < typing.length()) {
                call = "type";
                a = typing.charAt(typed++);
            } else if (typed == typing.length() && typed > 0) {
                call = "plain";
                typed++;
            } else {
                call = CALLS_MIXED[r.nextInt(CALLS_MIXED.length)];
                // told anew too often, nothing would grow old
                boolean turnsBack = call.equals("undo") || call.equals("back");
                boolean startsAnew = call.equals("plain") && (ahead || r.nextInt(6) > 0);
                if (startsAnew || ahead && turnsBack && r.nextInt(20) > 0) {
                    call = r.nextBoolean() ? "lots" : "now";
                }
                a = number(r, call, 0);
                b = number(r, call, 1);
                c = number(r, call, 2);
                if (!ahead && r.nextInt(300) == 0) {
                    typing = text(r);
                    typed = 0;
                }
            }
            long got = ask(x, call, a, b, c), want = model.answer(call, a, b, c);
            said.append(call).append('(').append(a).append(", ").append(b).append(", ").append(c).append(") ");
            if (got != want) {
                System.out.println("run " + seed + ": " + said + "answered " + got + ", due is " + want);
                return false;
            }
        }
        return true;
    }

    public static void main(String[] args) {
        int wrong = 0;
        for (int seed = 0; seed < RUNS && wrong < 3; seed++) {
            wrong += run(seed) ? 0 : 1;
        }
        System.out.println(wrong == 0 ? "all answers are as due" : wrong + " runs are not as due");
        if (wrong != 0) {
            System.exit(1);
        }
    }
}
