import java.math.BigInteger;
import java.util.ArrayDeque;
import java.util.ArrayList;
import java.util.Deque;
import java.util.List;
import java.util.regex.Matcher;
import java.util.regex.Pattern;

/**
 * The document told a second time, with nothing clever: patterns for the text, whole forests copied for every
 * "what if", ways found forward from where one is. ModelRuns holds DrumMaps against it.
 */
final class Model {
    static final int BAD = -1, NO = -2, FULL = -3, NONE = -4;
    static final String FIRST = "r00123;r01110;r32010;r00130;d0;d1;d2;d3;x0,7,0;x0,13,3;x1,1,2;x2,11,0;x3,18,0;"
            + "t0,19,0;t4,15,1;t15,4,2;t10,9,3;w1;";
    private static final Pattern ITEM = Pattern.compile(
            "r(?<row>[0-3]{1,6});|d(?<kind>\\d{1,2});|w(?<wet>\\d{1,2});"
            + "|(?<three>[xt])(?<a>\\d{1,2}),(?<b>\\d{1,2}),(?<c>\\d{1,2});");

    static final class Man {
        int at, goal, drum, toward = NONE, left;
        boolean there, lost;

        Man copy() {
            Man m = new Man();
            m.at = at; m.goal = goal; m.drum = drum; m.toward = toward; m.left = left; m.there = there; m.lost = lost;
            return m;
        }

        void send(int y) {
            goal = y;
            there = toward == NONE && at == y;
        }
    }

    static final class World {
        int wet, hours;
        List<String> rows = new ArrayList<>();
        List<Integer> kinds = new ArrayList<>();
        List<int[]> tells = new ArrayList<>();
        List<Man> men = new ArrayList<>();

        World copy() {
            World w = new World();
            w.wet = wet; w.hours = hours; w.rows = rows; w.kinds = kinds;
            for (int[] t : tells) w.tells.add(t.clone());
            for (Man m : men) w.men.add(m.copy());
            return w;
        }

        int width() { return rows.isEmpty() ? 0 : rows.get(0).length(); }
        int places() { return rows.size() * width(); }
        int is(int x) { return rows.get(x / width()).charAt(x % width()) - '0'; }
        int tells(int d, int x) { return tells.get(d)[x] < 0 ? is(x) : tells.get(d)[x]; }

        int takes(int d, int x) {
            int v = d < 0 ? is(x) : tells(d, x);
            int blind = d < 0 ? 0 : kinds.get(d);
            return blind != 0 && v == blind ? 0 : v;
        }

        /** 0: can not be entered. */
        int cost(int ground) {
            if (ground == 3 && wet > 1) return 0;
            int[] dry = {1, 2, 3, 1};
            return dry[ground] + (wet > 1 ? 1 : 0);
        }

        boolean next(int x, int y) {
            int w = width();
            return Math.abs(x / w - y / w) + Math.abs(x % w - y % w) == 1;
        }

        /** Fewest hours from x to y by drum d, or in truth (d < 0): hour after hour, what can be reached. */
        int hours(int d, int x, int y) {
            int n = places();
            int[] best = new int[n];
            java.util.Arrays.fill(best, -1);
            best[x] = 0;
            for (int h = 0; h <= 400; h++) {
                for (int p = 0; p < n; p++) {
                    if (best[p] != h) continue;
                    for (int q = 0; q < n; q++) {
                        int c = next(p, q) ? cost(takes(d, q)) : 0;
                        if (c > 0 && (best[q] < 0 || best[q] > h + c)) best[q] = h + c;
                    }
                }
            }
            return best[y] < 0 ? NONE : best[y];
        }

        int first(int d, int x, int y) {
            int whole = hours(d, x, y);
            if (x == y || whole < 0) return NONE;
            for (int q = 0; q < places(); q++) {
                int c = next(x, q) ? cost(takes(d, q)) : 0;
                if (c == 0) continue;
                int rest = hours(d, q, y);
                if (rest >= 0 && rest + c == whole) return q;
            }
            throw new IllegalStateException("a way without a first place");
        }

        void hour() {
            for (Man m : men) {
                if (m.there || m.lost) continue;
                if (m.toward == NONE) {
                    int f = first(m.drum, m.at, m.goal);
                    if (f == NONE) continue;
                    if (is(f) == 3 && wet > 1) { m.lost = true; continue; }
                    m.toward = f;
                    m.left = cost(is(f));
                }
                m.left--;
                if (m.left == 0) {
                    m.at = m.toward;
                    m.toward = NONE;
                    m.there = m.at == m.goal;
                }
            }
            hours++;
        }

        /** This man alone in a copy of the world. */
        World with(Man m) {
            World w = copy();
            w.men.clear();
            w.men.add(m.copy());
            return w;
        }

        World withDrum(int t, int d) {
            World w = with(men.get(t));
            w.men.get(0).drum = d;
            return w;
        }

        int until(boolean lost) {
            for (int h = 0; h <= 60; h++) {
                Man m = men.get(0);
                if (lost ? m.lost : m.there) return h;
                hour();
            }
            return NONE;
        }

        int led(int d, int x, int y) {
            Man m = new Man();
            m.at = x;
            m.drum = d;
            m.send(y);
            return with(m).until(false);
        }
    }

    private String text = "";
    private World world = new World();
    private final Deque<World> past = new ArrayDeque<>();
    private final Deque<World> kept = new ArrayDeque<>();
    private final List<int[]> heard = new ArrayList<>();

    Model() {
        text = FIRST;
        lay();
        text = "";
    }

    private static boolean in(int n, int a, int b) { return n >= a && n <= b; }
    private boolean noPlace(int x) { return !in(x, 0, world.places() - 1); }
    private boolean noDrum(int d) { return !in(d, 0, world.kinds.size() - 1); }
    private boolean noMan(int t) { return !in(t, 0, world.men.size() - 1); }

    /** The fault of the text, NONE without; what it tells goes into w. */
    private int read(World w) {
        Matcher m = ITEM.matcher(text);
        int start = 0;
        while (start < text.length()) {
            m.region(start, text.length());
            if (!m.lookingAt() || !takeItem(w, m)) return start;
            start = m.end();
        }
        return NONE;
    }

    private static boolean takeItem(World w, Matcher m) {
        String row = m.group("row");
        if (row != null) {
            if (w.rows.size() == 6 || !w.rows.isEmpty() && w.width() != row.length()) return false;
            w.rows.add(row);
            return true;
        }
        if (m.group("kind") != null) {
            int k = Integer.parseInt(m.group("kind"));
            if (k > 3 || w.kinds.size() == 4) return false;
            w.kinds.add(k);
            int[] as = new int[36];
            java.util.Arrays.fill(as, -1);
            w.tells.add(as);
            return true;
        }
        if (m.group("wet") != null) {
            int wet = Integer.parseInt(m.group("wet"));
            if (wet > 3) return false;
            w.wet = wet;
            return true;
        }
        int a = Integer.parseInt(m.group("a"));
        int b = Integer.parseInt(m.group("b"));
        int c = Integer.parseInt(m.group("c"));
        if (m.group("three").equals("x")) {
            if (a >= w.kinds.size() || b >= w.places() || c > 3) return false;
            w.tells.get(a)[b] = c;
            return true;
        }
        if (a >= w.places() || b >= w.places() || c >= w.kinds.size() || w.men.size() == 4) return false;
        Man man = new Man();
        man.at = a;
        man.drum = c;
        man.send(b);
        w.men.add(man);
        return true;
    }

    private void remember() {
        past.addLast(world.copy());
        if (past.size() > 8) past.removeFirst();
    }

    public int write(int letter) {
        if (!in(letter, 32, 126)) return BAD;
        if (text.length() == 200) return FULL;
        text += (char) letter;
        return text.length();
    }

    public int wipe() {
        int n = text.length();
        text = "";
        return n;
    }

    public int fault() { return read(new World()); }

    public int lay() {
        World w = new World();
        if (read(w) != NONE || w.rows.isEmpty() || w.kinds.isEmpty()) return NO;
        world = w;
        past.clear();
        kept.clear();
        heard.clear();
        return w.places();
    }

    public int place(int x) { return noPlace(x) ? BAD : world.is(x); }

    public int drum(int d, int x, int what) {
        if (noDrum(d) || noPlace(x) || !in(what, 0, 2)) return BAD;
        int v = world.tells(d, x);
        return what == 0 ? v : what == 1 ? world.takes(d, x) : v == 3 ? 0 : new int[] {9, 6, 4}[v] - world.wet;
    }

    public int kind(int d) { return noDrum(d) ? BAD : world.kinds.get(d); }

    public int traveller(int t, int what) {
        if (noMan(t) || !in(what, 0, 5)) return BAD;
        Man m = world.men.get(t);
        return new int[] {m.at, m.goal, m.drum, m.lost ? 2 : m.there ? 1 : 0, m.toward, m.left}[what];
    }

    public int route(int d, int x, int y, int what) {
        if (noDrum(d) || noPlace(x) || noPlace(y) || !in(what, 0, 1)) return BAD;
        return what == 0 ? world.hours(d, x, y) : world.first(d, x, y);
    }

    public int truth(int x, int y) { return noPlace(x) || noPlace(y) ? BAD : world.hours(-1, x, y); }

    public int pass(int n) {
        if (!in(n, 1, 24)) return BAD;
        remember();
        for (int i = 0; i < n; i++) world.hour();
        return world.hours;
    }

    public int rain(int w) {
        if (!in(w, 0, 3)) return BAD;
        remember();
        int was = world.wet;
        world.wet = w;
        return was;
    }

    public int retune(int d, int x, int v) {
        if (noDrum(d) || noPlace(x) || !in(v, 0, 3)) return BAD;
        remember();
        int was = world.tells(d, x);
        world.tells.get(d)[x] = v;
        return was;
    }

    private static boolean goes(Man m) { return !m.there && !m.lost; }

    public int give(int t, int d) {
        if (noMan(t) || noDrum(d)) return BAD;
        Man m = world.men.get(t);
        if (!goes(m)) return NO;
        remember();
        int had = m.drum;
        m.drum = d;
        return had;
    }

    public int send(int t, int y) {
        if (noMan(t) || noPlace(y)) return BAD;
        Man m = world.men.get(t);
        if (m.lost) return NO;
        remember();
        m.send(y);
        return m.there ? 1 : 0;
    }

    public int undo() {
        if (past.isEmpty()) return NO;
        world = past.removeLast();
        return past.size();
    }

    public int arrives(int t) { return noMan(t) ? BAD : world.with(world.men.get(t)).until(false); }
    public int loses(int t) { return noMan(t) ? BAD : world.with(world.men.get(t)).until(true); }

    public int led(int d, int x, int y) {
        return noDrum(d) || noPlace(x) || noPlace(y) ? BAD : world.led(d, x, y);
    }

    public int fastest(int t) {
        if (noMan(t)) return BAD;
        if (!goes(world.men.get(t))) return NO;
        for (int h = 0; h <= 60; h++) {
            for (int d = 0; d < world.kinds.size(); d++) {
                if (world.withDrum(t, d).until(false) == h) return d;
            }
        }
        return NONE;
    }

    public int tune(int t) {
        if (noMan(t)) return BAD;
        Man m = world.men.get(t);
        if (!goes(m)) return NO;
        int as = world.with(m).until(false);
        int best = NONE;
        int first = as == NONE ? 61 : as;
        for (int x = 0; x < world.places(); x++) {
            World w = world.with(m);
            w.tells.get(m.drum)[x] = w.is(x);
            int h = w.until(false);
            if (h >= 0 && h < first) {
                first = h;
                best = x;
            }
        }
        return best;
    }

    public int meet(int t, int u) {
        if (noMan(t) || noMan(u) || t == u) return BAD;
        World w = world.copy();
        for (int h = 0; h <= 60; h++) {
            Man a = w.men.get(t);
            Man b = w.men.get(u);
            if (a.toward == NONE && b.toward == NONE && a.at == b.at) return h;
            w.hour();
        }
        return NONE;
    }

    public int clash(int d, int e, int what) {
        if (noDrum(d) || noDrum(e) || d == e || !in(what, 0, 1)) return BAD;
        List<Integer> all = new ArrayList<>();
        for (int x = 0; x < world.places(); x++) if (world.tells(d, x) != world.tells(e, x)) all.add(x);
        return what == 0 ? all.size() : all.isEmpty() ? NONE : all.get(0);
    }

    public int right(int x, int y) {
        if (noPlace(x) || noPlace(y)) return BAD;
        int best = world.hours(-1, x, y);
        int bits = 0;
        for (int d = 0; d < world.kinds.size(); d++) {
            int h = world.led(d, x, y);
            if (best >= 0 && h >= 0 && h <= best) bits += 1 << d;
        }
        return bits;
    }

    public int hear(int x, int v) {
        if (noPlace(x) || !in(v, 0, 3)) return BAD;
        if (heard.size() == 8) return FULL;
        heard.add(new int[] {x, v});
        return heard.size();
    }

    public int forget() {
        int n = heard.size();
        heard.clear();
        return n;
    }

    public int which() {
        int bits = 0;
        for (int d = 0; d < world.kinds.size(); d++) {
            final int drum = d;
            if (heard.stream().allMatch(h -> world.tells(drum, h[0]) == h[1])) bits += 1 << d;
        }
        return bits;
    }

    public int seen(int t, int x, int n) {
        if (noMan(t) || noPlace(x) || !in(n, 0, 30)) return BAD;
        int bits = 0;
        for (int d = 0; d < world.kinds.size(); d++) {
            World w = world.withDrum(t, d);
            for (int i = 0; i < n; i++) w.hour();
            if (w.men.get(0).at == x) bits += 1 << d;
        }
        return bits;
    }

    private static BigInteger weight(World w, int n, int x, int asItIs) {
        if (n == 0) return w.men.get(0).there ? BigInteger.ONE : BigInteger.ZERO;
        World dry = w.copy();
        dry.wet = asItIs;
        dry.hour();
        World rainy = w.copy();
        rainy.wet = 3;
        rainy.hour();
        return weight(dry, n - 1, x, asItIs).multiply(BigInteger.valueOf(10 - x))
                .add(weight(rainy, n - 1, x, asItIs).multiply(BigInteger.valueOf(x)));
    }

    public int rains(int t, int n, int x, int part) {
        if (noMan(t) || !in(n, 0, 8) || !in(x, 0, 10) || !in(part, 0, 1)) return BAD;
        BigInteger above = weight(world.with(world.men.get(t)), n, x, world.wet);
        BigInteger below = BigInteger.TEN.pow(n);
        BigInteger g = above.gcd(below);
        return (part == 0 ? above : below).divide(g).intValueExact();
    }

    public int year(int z, int n, int what) {
        if (!in(z, 0, 9999) || !in(n, 1, 60) || !in(what, 0, 1)) return BAD;
        World w = world.copy();
        for (int k = 0; k < n; k++) {
            BigInteger x = BigInteger.valueOf(7919).multiply(BigInteger.valueOf(z))
                    .add(BigInteger.valueOf(6151).multiply(BigInteger.valueOf(k))).add(BigInteger.ONE);
            int draw = x.multiply(x).mod(BigInteger.valueOf(65521)).intValueExact();
            if (draw % 8 == 0) w.wet = draw / 8 % 4;
            if (draw % 8 == 1) w.tells.get(draw / 8 % w.kinds.size())[draw / 32 % w.places()] = draw / 2048 % 4;
            if (draw % 8 == 2 && !w.men.isEmpty()) {
                Man m = w.men.get(draw / 8 % w.men.size());
                if (!m.lost) m.send(draw / 32 % w.places());
            }
            w.hour();
        }
        return (int) w.men.stream().filter(m -> what == 0 ? m.there : m.lost).count();
    }

    public int keep() {
        if (kept.size() == 2) return FULL;
        kept.addLast(world.copy());
        return kept.size();
    }

    public int back() {
        if (kept.isEmpty()) return NO;
        world = kept.removeLast();
        past.clear();
        return kept.size();
    }

    private int sure() {
        int n = 0;
        for (int x = 0; x < world.places(); x++) {
            boolean all = true;
            for (int d = 0; d < world.kinds.size(); d++) all &= world.tells(d, x) == world.is(x);
            if (all) n++;
        }
        return n;
    }

    public int count(int what) {
        if (!in(what, 0, 12)) return BAD;
        int there = (int) world.men.stream().filter(m -> m.there).count();
        int lost = (int) world.men.stream().filter(m -> m.lost).count();
        return new int[] {world.places(), world.width(), world.kinds.size(), world.men.size(), world.wet, world.hours,
            there, lost, sure(), heard.size(), past.size(), kept.size(), text.length()}[what];
    }
}
