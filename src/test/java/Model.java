import java.util.ArrayList;
import java.util.Arrays;
import java.util.HashMap;
import java.util.LinkedHashMap;
import java.util.LinkedHashSet;
import java.util.List;
import java.util.Map;
import java.util.NoSuchElementException;
import java.util.Set;
import java.util.TreeSet;
import java.util.regex.Matcher;
import java.util.regex.Pattern;

/** The document once more, slow and plain, with nothing kept from call to call but what is told. */
final class Model {
    static final long B = 1000000000L;

    static final class T {
        int people, start = 1, penny = 1, hands = 8, prize, pays, law, wax = 1, first, out = -1;
        int[] sort = new int[8], n = new int[8];
        int[][] w = new int[8][8];

        T copy() {
            T t = new T();
            t.people = people; t.start = start; t.penny = penny; t.hands = hands; t.prize = prize;
            t.pays = pays; t.law = law; t.wax = wax; t.first = first; t.out = out;
            t.sort = sort.clone(); t.n = n.clone();
            for (int i = 0; i < 8; i++) t.w[i] = w[i].clone();
            return t;
        }

        long pence(int h) { return start + (long) penny * (h - 1); }
        boolean tracks() { return law != 0 && pays > 0; }
    }

    record Hand(int who, int h, Set<Integer> had, int from, List<Integer> sent) { }
    record Out(long[] gets, long ends) { }

    static final class Fault extends Exception {
        final int code, place;
        Fault(int code, int place) { this.code = code; this.place = place; }
    }

    // ---- HANDS

    static Hand first(T t) {
        Set<Integer> had = t.law == 0 ? Set.of(t.first) : Set.of();
        List<Integer> sent = t.tracks() ? List.of(0, 0, 0, 0, 0, 0, 0, 0) : List.of();
        return new Hand(t.first, 1, had, -1, sent);
    }

    static Hand behind(T t, Hand x, int to) {
        Set<Integer> had = new TreeSet<>(x.had);
        if (t.law == 0) had.add(to);
        List<Integer> sent = new ArrayList<>(x.sent);
        if (t.tracks()) sent.set(x.who, sent.get(x.who) + 1);
        return new Hand(to, x.h + 1, had, t.law == 1 ? x.who : -1, sent);
    }

    static List<Integer> may(T t, Hand x) {
        List<Integer> may = new ArrayList<>();
        if (x.h >= t.hands) return may;
        for (int p = 0; p < t.people; p++) {
            if (t.w[x.who][p] == 0 || p == t.out) continue;
            if (t.law == 0 && x.had.contains(p)) continue;
            if (t.law == 1 && x.from == p) continue;
            may.add(p);
        }
        return may;
    }

    static void needRoom(T t) {
        Set<Hand> seen = new LinkedHashSet<>();
        List<Hand> todo = new ArrayList<>();
        seen.add(first(t));
        todo.add(first(t));
        for (int i = 0; i < todo.size(); i++) {
            for (int p : may(t, todo.get(i))) {
                Hand y = behind(t, todo.get(i), p);
                if (seen.add(y)) todo.add(y);
            }
            if (seen.size() > 20000) throw new IllegalArgumentException();
        }
    }

    // ---- GETS and BEST

    static long pay(T t, long ends) { return 1000 * t.pays * ends / B; }

    static long value(T t, Hand x, int to, Map<Hand, Out> memo) {
        Out o = out(t, behind(t, x, to), memo);
        long times = t.tracks() ? x.sent.get(x.who) : 0;
        return o.gets[x.who] + pay(t, o.ends) - 1000L * t.penny + times * pay(t, o.ends) + 1000L * t.n[x.who];
    }

    static int best(T t, Hand x, Map<Hand, Out> memo) {
        int best = -1;
        long most = 1000 * t.pence(x.h);
        for (int p : may(t, x)) {
            long v = value(t, x, p, memo);
            if (v > most) { most = v; best = p; }
        }
        return best;
    }

    /** How many of 1000 are opened. */
    static long share(T t, Hand x, Map<Hand, Out> memo) {
        if (may(t, x).isEmpty()) return 1000;
        long pence = t.pence(x.h);
        return switch (t.sort[x.who]) {
            case 0 -> pence - pence % t.wax >= t.n[x.who] ? 1000 : 0;
            case 1 -> 0;
            case 2 -> t.n[x.who];
            default -> best(t, x, memo) < 0 ? 1000 : 0;
        };
    }

    /** To whom it is sent, with which weight. */
    static Map<Integer, Long> to(T t, Hand x, Map<Hand, Out> memo) {
        Map<Integer, Long> to = new LinkedHashMap<>();
        if (t.sort[x.who] == 3) {
            int b = best(t, x, memo);
            if (b >= 0) to.put(b, 1L);
        } else {
            for (int p : may(t, x)) to.put(p, (long) t.w[x.who][p]);
        }
        return to;
    }

    static long sum(Map<Integer, Long> to) {
        return to.values().stream().mapToLong(Long::longValue).sum();
    }

    static Out out(T t, Hand x, Map<Hand, Out> memo) {
        Out known = memo.get(x);
        if (known != null) return known;
        long[] open = new long[8];
        open[x.who] = 1000 * t.pence(x.h) + (x.h == t.hands ? 1000L * t.prize : 0);
        Out result = new Out(open, x.h == t.hands ? B : 0);
        long share = share(t, x, memo);
        if (share < 1000) {
            Map<Integer, Long> to = to(t, x, memo);
            long all = sum(to), ends = 0;
            long[] sums = new long[8];
            for (int p : to.keySet()) {
                Out o = out(t, behind(t, x, p), memo);
                ends += to.get(p) * o.ends;
                for (int q = 0; q < 8; q++) sums[q] += to.get(p) * o.gets[q];
                sums[x.who] += to.get(p) * (pay(t, o.ends) - 1000L * t.penny);
            }
            long[] mixed = new long[8];
            for (int q = 0; q < 8; q++) {
                mixed[q] = Math.floorDiv(open[q] * share + Math.floorDiv(sums[q], all) * (1000 - share), 1000L);
            }
            result = new Out(mixed, ends / all * (1000 - share) / 1000);
        }
        memo.put(x, result);
        return result;
    }

    // ---- CASES, ODDS, THE CHAIN

    static long[][] cases(T t) {
        needRoom(t);
        Map<Hand, Out> memo = new HashMap<>();
        long[][] opened = new long[8][13];
        Map<Hand, Long> now = new LinkedHashMap<>();
        now.put(first(t), B);
        while (!now.isEmpty()) {
            Map<Hand, Long> next = new LinkedHashMap<>();
            for (Hand x : now.keySet()) {
                long c = now.get(x), o = c * share(t, x, memo) / 1000, left = c - o;
                opened[x.who][x.h] += o;
                if (left == 0) continue;
                Map<Integer, Long> to = to(t, x, memo);
                List<Integer> order = new ArrayList<>(to.keySet());
                for (int i = 0; i < order.size(); i++) {
                    long part = (c - o) * to.get(order.get(i)) / sum(to);
                    if (i == order.size() - 1) part = left;
                    left -= part;
                    next.merge(behind(t, x, order.get(i)), part, Long::sum);
                }
            }
            now = next;
        }
        return opened;
    }

    static long step(T t, Hand x, int p, long chance, Map<Hand, Out> memo) {
        Map<Integer, Long> to = to(t, x, memo);
        if (!to.containsKey(p)) return 0;
        return chance * (1000 - share(t, x, memo)) / 1000 * to.get(p) / sum(to);
    }

    static int wrong(T t, List<Integer> row) {
        Hand x = null;
        for (int i = 0; i < row.size(); i++) {
            if (i == 0 ? row.get(0) != t.first : !may(t, x).contains(row.get(i))) return i + 1;
            x = i == 0 ? first(t) : behind(t, x, row.get(i));
        }
        return -1;
    }

    static long odds(T t, List<Integer> row, Map<Hand, Out> memo) {
        if (row.isEmpty() || wrong(t, row) >= 0) return 0;
        Hand x = first(t);
        long chance = B;
        for (int i = 1; i < row.size(); i++) {
            chance = step(t, x, row.get(i), chance, memo);
            x = behind(t, x, row.get(i));
        }
        return chance * share(t, x, memo) / 1000;
    }

    static int compare(List<Integer> a, List<Integer> b) {
        for (int i = 0; i < a.size(); i++) {
            int c = Integer.compare(a.get(i), b.get(i));
            if (c != 0) return c;
        }
        return 0;
    }

    // ---- the face

    private byte[] tape = new byte[0];
    private int place = -1;
    private final int[] status = new int[3];
    T told = new T();
    private List<Integer> row = new ArrayList<>();
    private List<List<Integer>> rows = new ArrayList<>();
    private int[][][] guesses = new int[4][8][];
    private List<int[]> letters = new ArrayList<>();
    private List<Integer> chain = null;

    private static final class W {
        int seed, out;
        int[] till = new int[8];
        List<int[]> been = new ArrayList<>();

        W copy() {
            W w = new W();
            w.seed = seed; w.out = out; w.till = till.clone(); w.been = new ArrayList<>(been);
            return w;
        }

        int draw(int n) {
            seed = seed * 1103515245 + 12345;
            return (seed >>> 16) % 32768 % n;
        }
    }

    private W weeks, image;

    int feed(int a, int b, int c, int d, int e) {
        if (tape.length + 20 > 700) return -1;
        int at = tape.length;
        tape = Arrays.copyOf(tape, at + 20);
        for (int x : new int[] {a, b, c, d, e}) {
            for (int i = 0; i < 4; i++) tape[at++] = (byte) (x >>> (24 - 8 * i));
        }
        return tape.length;
    }

    int town(int n) {
        if (n < 0 || n > tape.length) throw new IllegalArgumentException();
        StringBuilder text = new StringBuilder();
        for (int i = 0; i < n; i++) text.append((char) (tape[i] & 255));
        tape = new byte[0];
        try {
            T t = new Parser(text.toString()).parse();
            told = t;
        } catch (Fault f) {
            place = f.place;
            status[0]++;
            return f.code;
        }
        place = -1;
        row = new ArrayList<>();
        rows = new ArrayList<>();
        guesses = new int[4][8][];
        letters = new ArrayList<>();
        chain = null;
        weeks = null;
        image = null;
        return 0;
    }

    int fault() { return place; }

    int count(int what) {
        int[] all = {told.people, told.start, told.penny, told.hands, told.prize, told.pays, told.law, told.wax,
            told.first, tape.length, row.size(), rows.size(), letters.size(), status[0], status[1], status[2]};
        need(what >= 0 && what < all.length);
        return all[what];
    }

    private static void need(boolean there) { if (!there) throw new NoSuchElementException(); }
    private static void ask(boolean asTold) { if (!asTold) throw new IllegalArgumentException(); }
    private void needP(int p) { need(p >= 0 && p < told.people); }

    int person(int p, int what) {
        needP(p);
        need(what >= 0 && what <= 2);
        int bits = 0;
        for (int q = 0; q < 8; q++) if (told.w[p][q] > 0) bits |= 1 << q;
        return what == 0 ? told.sort[p] : what == 1 ? told.n[p] : bits;
    }

    int weight(int p, int q) { needP(p); needP(q); return told.w[p][q]; }

    int opened(int p, int h) {
        needP(p);
        need(h >= 1 && h <= told.hands);
        return (int) cases(told)[p][h];
    }

    private static long length(T t) {
        long all = 0;
        long[][] c = cases(t);
        for (int p = 0; p < 8; p++) for (int h = 1; h <= 12; h++) all += h * c[p][h];
        return all;
    }

    long goes(int what) {
        need((what == 0 || what == 1) && told.people > 0);
        if (what == 1) return length(told);
        long all = 0;
        for (long[] c : cases(told)) all += c[told.hands];
        return all;
    }

    long gets(int p) {
        needP(p);
        needRoom(told);
        return out(told, first(told), new HashMap<>()).gets[p];
    }

    private static T reckoning(T told) {
        T t = told.copy();
        for (int p = 0; p < t.people; p++) {
            if (t.sort[p] != 3) t.n[p] = 0;
            t.sort[p] = 3;
        }
        return t;
    }

    private static Hand end(T t) {
        needRoom(t);
        Map<Hand, Out> memo = new HashMap<>();
        Hand x = first(t);
        for (int b = best(t, x, memo); b >= 0; b = best(t, x, memo)) x = behind(t, x, b);
        return x;
    }

    int all(int what) {
        need((what == 0 || what == 1) && told.people > 0);
        Hand x = end(reckoning(told));
        return what == 0 ? x.who : x.h;
    }

    int least(boolean pays, int from, int to, int step) {
        need(told.people > 0);
        ask(from >= 0 && from <= 9999 && to >= 0 && to <= 9999 && from <= to && step >= 1);
        List<Integer> numbers = new ArrayList<>();
        for (long x = from; x <= to; x += step) numbers.add((int) x);
        ask(numbers.size() <= 60);
        for (int x : numbers) {
            T t = reckoning(told);
            if (pays) t.pays = x; else t.prize = x;
            if (end(t).h == t.hands) return x;
        }
        return -1;
    }

    long one(int p, int to, int step, int what) {
        needP(p);
        need(what == 0 || what == 1);
        ask(to >= 0 && to <= 9999 && step >= 1);
        List<Integer> numbers = new ArrayList<>();
        for (long x = 0; x <= to; x += step) numbers.add((int) x);
        ask(numbers.size() <= 60);
        needRoom(told);
        long most = Long.MIN_VALUE;
        int best = -1;
        for (int x : numbers) {
            T t = told.copy();
            t.sort[p] = 0;
            t.n[p] = x;
            long g = out(t, first(t), new HashMap<>()).gets[p];
            if (g > most) { most = g; best = x; }
        }
        return what == 0 ? best : most;
    }

    long named(int p) {
        needP(p);
        T t = told.copy();
        t.first = p;
        t.sort[p] = 3;
        t.n[p] = 0;
        needRoom(t);
        Hand x = first(t);
        if (may(t, x).isEmpty()) return -1;
        Map<Hand, Out> memo = new HashMap<>();
        for (long n = 0; ; n++) {
            for (int q : may(t, x)) if (value(t, x, q, memo) + 1000 * n > 1000 * t.pence(1)) return n;
        }
    }

    int hand(int p) {
        needP(p);
        if (row.size() == 20) { status[1]++; return -1; }
        row.add(p);
        return row.size();
    }

    int judge() { return wrong(told, row); }

    int odds() {
        if (told.people == 0) return 0;
        needRoom(told);
        return (int) odds(told, row, new HashMap<>());
    }

    int ended() {
        if (rows.size() == 20) return -1;
        rows.add(row);
        row = new ArrayList<>();
        return rows.size();
    }

    boolean guess(int g, int p, int sort, int n) {
        need(g >= 0 && g < 4);
        needP(p);
        if (sort < 0 || sort > 3) return false;
        if (sort == 1) n = 0;
        if (n < 0 || n > (sort == 2 ? 1000 : 9999)) return false;
        guesses[g][p] = new int[] {sort, n};
        return true;
    }

    private boolean isTold(int g) {
        for (int[] x : guesses[g]) if (x != null) return true;
        return false;
    }

    int credit(int guess) {
        need(guess >= 0 && guess < 4);
        if (!isTold(guess)) return -1;
        needRoom(told);
        Map<Integer, Long> share = new LinkedHashMap<>();
        for (int g = 0; g < 4; g++) if (isTold(g)) share.put(g, 0L);
        for (int g : share.keySet()) share.put(g, 1000000L / share.size());
        for (List<Integer> r : rows) {
            Map<Integer, Long> next = new LinkedHashMap<>();
            for (int g : share.keySet()) {
                T t = told.copy();
                for (int p = 0; p < 8; p++) {
                    if (guesses[g][p] != null) { t.sort[p] = guesses[g][p][0]; t.n[p] = guesses[g][p][1]; }
                }
                next.put(g, share.get(g) * Math.max(1, odds(t, r, new HashMap<>()) / 1000));
            }
            for (int g : share.keySet()) share.put(g, next.get(g) * 1000000 / sum(next));
        }
        return (int) (long) share.get(guess);
    }

    int chain(int law) {
        need(law >= 0 && law <= 2 && told.people > 0);
        T t = told.copy();
        t.law = law;
        needRoom(t);
        Map<Hand, Out> memo = new HashMap<>();
        Map<Hand, List<Integer>> ways = new HashMap<>();
        Map<Hand, Long> chances = new LinkedHashMap<>();
        ways.put(first(t), List.of(t.first));
        chances.put(first(t), B);
        for (int h = 1; h < t.hands; h++) {
            Map<Hand, List<Integer>> nextWays = new HashMap<>();
            Map<Hand, Long> next = new LinkedHashMap<>();
            for (Hand x : chances.keySet()) {
                for (int p : may(t, x)) {
                    long c = step(t, x, p, chances.get(x), memo);
                    if (c == 0) continue;
                    Hand y = behind(t, x, p);
                    List<Integer> way = new ArrayList<>(ways.get(x));
                    way.add(p);
                    long had = next.getOrDefault(y, 0L);
                    if (c > had || c == had && compare(way, nextWays.get(y)) < 0) {
                        next.put(y, c);
                        nextWays.put(y, way);
                    }
                }
            }
            ways = nextWays;
            chances = next;
        }
        Hand best = null;
        for (Hand x : chances.keySet()) {
            if (best == null || chances.get(x) > chances.get(best)
                    || chances.get(x).longValue() == chances.get(best) && compare(ways.get(x), ways.get(best)) < 0) {
                best = x;
            }
        }
        if (best == null) return -1;
        chain = ways.get(best);
        return (int) (long) chances.get(best);
    }

    int chained(int i) {
        need(chain != null && i >= 0 && i < chain.size());
        return chain.get(i);
    }

    int two(int p, int q) {
        needP(p);
        needP(q);
        T t = told.copy();
        t.first = p;
        long[][] c = cases(t);
        long both = 0;
        for (int x = 0; x < 8; x++) {
            if (c[x][t.hands] == 0 || x == q) continue;
            T u = told.copy();
            u.first = q;
            u.out = x;
            needRoom(u);
            both += c[x][t.hands] * out(u, first(u), new HashMap<>()).ends / B;
        }
        return (int) both;
    }

    long feeling(int wax) {
        need(told.people > 0);
        ask(wax >= 1 && wax <= 99);
        T t = told.copy();
        t.wax = wax;
        return length(t);
    }

    int theft(int through, int few) {
        ask(through >= 0 && through < 1 << told.people);
        if (letters.size() == 30 || few < 0 || few > 8) { status[2]++; return -1; }
        letters.add(new int[] {through, few});
        return letters.size();
    }

    int thieves(int what) {
        need(what >= 0 && what <= 4);
        List<Integer> sets = new ArrayList<>();
        for (int s = 0; s < 1 << told.people; s++) {
            boolean all = true;
            for (int[] l : letters) all &= Integer.bitCount(s & l[0]) == l[1];
            if (all) sets.add(s);
        }
        int surely = sets.isEmpty() ? 0 : -1, possibly = 0, fewest = -1;
        for (int s : sets) {
            surely &= s;
            possibly |= s;
            if (fewest < 0 || Integer.bitCount(s) < Integer.bitCount(fewest)) fewest = s;
        }
        if (what == 2) return sets.size();
        if (what < 2) return what == 0 ? surely : possibly;
        if (what == 3) return fewest;
        int ask = -1;
        double near = 0;
        for (int p = 0; p < told.people && !sets.isEmpty(); p++) {
            int in = 0;
            for (int s : sets) in += s >> p & 1;
            double off = Math.abs(in - sets.size() / 2.0);
            if (ask < 0 || off < near) { ask = p; near = off; }
        }
        return ask;
    }

    int luck(int n, int k, int chance) {
        ask(n >= 0 && n <= 30 && k >= 0 && k <= n && chance >= 0 && chance <= 1000);
        long[] a = new long[n + 1];
        a[0] = B;
        for (int i = 0; i < n; i++) {
            long[] b = new long[n + 1];
            for (int j = 0; j <= n; j++) b[j] = (a[j] * (1000 - chance) + (j > 0 ? a[j - 1] * chance : 0)) / 1000;
            a = b;
        }
        long all = 0;
        for (int j = k; j <= n; j++) all += a[j];
        return (int) all;
    }

    void begin(int seed, int out) {
        ask(out >= 0 && out <= 20 && told.people > 0);
        weeks = new W();
        weeks.seed = seed;
        weeks.out = out;
        Arrays.fill(weeks.till, -1);
    }

    int on(int more) {
        ask(more >= 0 && more <= 60);
        if (weeks == null || weeks.been.size() + more > 100) return -1;
        needRoom(told);
        Map<Hand, Out> memo = new HashMap<>();
        for (int i = 0; i < more; i++) weeks.been.add(oneWeek(weeks.been.size(), memo));
        return weeks.been.size();
    }

    private int[] oneWeek(int now, Map<Hand, Out> memo) {
        if (weeks.till[told.first] >= now) return new int[] {-1, 0, 0};
        Hand x = first(told);
        while (true) {
            int to = sendTo(x, now, memo);
            if (to < 0) break;
            x = behind(told, x, to);
        }
        if (x.h < told.hands) weeks.till[x.who] = now + weeks.out;
        return new int[] {x.who, x.h, (int) told.pence(x.h)};
    }

    private int sendTo(Hand x, int now, Map<Hand, Out> memo) {
        List<Integer> may = may(told, x);
        if (may.isEmpty()) return -1;
        if (told.sort[x.who] == 3) {
            int b = best(told, x, memo);
            return b >= 0 && weeks.till[b] >= now ? -1 : b;
        }
        if (told.sort[x.who] == 2 && weeks.draw(1000) < told.n[x.who]) return -1;
        if (told.sort[x.who] == 0 && share(told, x, memo) == 1000) return -1;
        may.removeIf(p -> weeks.till[p] >= now);
        if (may.isEmpty()) return -1;
        int all = 0;
        for (int p : may) all += told.w[x.who][p];
        int drawn = weeks.draw(all);
        for (int p : may) {
            drawn -= told.w[x.who][p];
            if (drawn < 0) return p;
        }
        throw new AssertionError();
    }

    int week(int week, int what) {
        need(weeks != null && week >= 0 && week < weeks.been.size() && what >= 0 && what <= 2);
        return weeks.been.get(week)[what];
    }

    boolean image() {
        if (weeks == null) return false;
        image = weeks.copy();
        return true;
    }

    boolean restore() {
        if (image == null) return false;
        weeks = image.copy();
        return true;
    }

    // ---- the text

    private static final class Parser {
        private final List<String> tokens = new ArrayList<>();
        private final List<Integer> places = new ArrayList<>();
        private final T t = new T();
        private int i;

        Parser(String text) {
            Matcher m = Pattern.compile("[a-z]+|[0-9]+|[^ \n]").matcher(text);
            while (m.find()) { tokens.add(m.group()); places.add(m.start()); }
            tokens.add("");
            places.add(text.length());
        }

        private Fault fault(int code, int at) { return new Fault(code, places.get(at)); }

        private boolean eat(String word) {
            if (!tokens.get(i).equals(word)) return false;
            i++;
            return true;
        }

        private int number(int low, int high) throws Fault {
            String s = tokens.get(i);
            if (!s.matches("[0-9]+")) throw fault(1, i);
            if (s.length() > 4 || Integer.parseInt(s) < low || Integer.parseInt(s) > high) throw fault(2, i);
            i++;
            return Integer.parseInt(s);
        }

        private int known() throws Fault {
            int p = number(0, 9999);
            if (p >= t.people) throw fault(3, i - 1);
            return p;
        }

        T parse() throws Fault {
            Set<String> before = new TreeSet<>();
            while (!tokens.get(i).isEmpty()) {
                String line = tokens.get(i);
                if (!List.of("person", "knows", "letter", "law", "wax", "first").contains(line)) throw fault(1, i);
                if (line.equals("person") && t.people == 8) throw fault(2, i);
                if (!line.equals("person") && !line.equals("knows") && !before.add(line)) throw fault(5, i);
                i++;
                line(line);
                if (!eat(";")) throw fault(1, i);
            }
            return t;
        }

        private void line(String line) throws Fault {
            switch (line) {
                case "person" -> {
                    int sort = List.of("opens", "sends", "luck", "best").indexOf(tokens.get(i));
                    if (sort < 0) throw fault(1, i);
                    i++;
                    int n = 0;
                    if (sort == 0 || sort == 3 && eat("name")) n = number(0, 9999);
                    if (sort == 2) n = number(0, 1000);
                    t.sort[t.people] = sort;
                    t.n[t.people++] = n;
                }
                case "knows" -> {
                    int a = known(), b = known();
                    if (a == b || t.w[a][b] > 0) throw fault(4, i - 1);
                    t.w[a][b] = eat("weight") ? number(1, 99) : 1;
                }
                case "letter" -> {
                    t.start = number(0, 9999);
                    t.penny = number(0, 99);
                    t.hands = number(1, 12);
                    if (eat("prize")) t.prize = number(0, 9999);
                    if (eat("pays")) t.pays = number(0, 9999);
                }
                case "law" -> {
                    t.law = List.of("once", "again", "back").indexOf(tokens.get(i));
                    if (t.law < 0) throw fault(1, i);
                    i++;
                }
                case "wax" -> t.wax = number(1, 99);
                default -> t.first = known();
            }
        }
    }
}
