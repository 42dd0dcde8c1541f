import java.util.ArrayDeque;
import java.util.ArrayList;
import java.util.Arrays;
import java.util.Deque;
import java.util.HashMap;
import java.util.HashSet;
import java.util.List;
import java.util.Map;
import java.util.NoSuchElementException;
import java.util.Set;
import java.util.TreeMap;
import java.util.regex.Matcher;
import java.util.regex.Pattern;

/**
 * The document's words once more, one after another and without regard to speed: TwoViews has to
 * answer alike. It shares no code with TwoViews.
 */
final class Plain {
    private static final int NONE = -1;
    private static final int[][] WAYS = {
        {1, 0}, {-1, 0}, {0, 1}, {0, -1}, {1, 1}, {-1, -1}, {1, -1}, {-1, 1}
    };

    private static final class State {
        int w = 8;
        int h = 6;
        int most = 3;
        int window = 1;
        int a = 2;
        int b = 6;
        int paths = 255;
        int slack = 1;
        int least = 1;
        int focus = 100;
        int[][][] pic = new int[2][12][16];

        State copy() {
            State s = new State();
            s.w = w;
            s.h = h;
            s.most = most;
            s.window = window;
            s.a = a;
            s.b = b;
            s.paths = paths;
            s.slack = slack;
            s.least = least;
            s.focus = focus;
            for (int v = 0; v < 2; v++) {
                for (int y = 0; y < 12; y++) {
                    s.pic[v][y] = pic[v][y].clone();
                }
            }
            return s;
        }
    }

    private static final class Fault extends RuntimeException {
        private static final long serialVersionUID = 1L;
        final int number;

        Fault(int place, int kind) {
            number = 8 * place + kind;
        }
    }

    private State s = new State();
    private List<int[]> layers = new ArrayList<>();
    private final List<Integer> tape = new ArrayList<>();
    private final Deque<State> past = new ArrayDeque<>();
    private final State[] images = new State[2];
    private final List<List<int[]>> imageLayers = new ArrayList<>(Arrays.asList(null, null));
    private final Map<Long, Integer> memo = new HashMap<>();

    private void act() {
        past.addLast(s.copy());
        if (past.size() > 8) {
            past.removeFirst();
        }
        memo.clear();
    }

    private boolean has(int view, int x, int y) {
        return (view == 0 || view == 1) && x >= 0 && y >= 0 && x < s.w && y < s.h;
    }

    private void need(int view, int x, int y) {
        if (!has(view, x, y)) {
            throw new NoSuchElementException();
        }
    }

    int feed(int a, int b, int c, int d, int e) {
        if (tape.size() > 680) {
            return NONE;
        }
        for (int n : new int[] {a, b, c, d, e}) {
            for (int k = 3; k >= 0; k--) {
                tape.add(n >>> 8 * k & 255);
            }
        }
        return tape.size();
    }

    int text(int n) {
        if (n < 0 || n > tape.size()) {
            return NONE;
        }
        StringBuilder bytes = new StringBuilder();
        for (int i = 0; i < n; i++) {
            bytes.append((char) (int) tape.get(i));
        }
        tape.clear();
        List<Integer> places = new ArrayList<>();
        List<String> tokens = new ArrayList<>();
        Matcher m = Pattern.compile("[a-z0-9]+|;|[^ \n]", Pattern.DOTALL).matcher(bytes);
        while (m.find()) {
            places.add(m.start());
            tokens.add(m.group());
        }
        places.add(n);
        tokens.add("");
        State told = new State();
        told.least = s.least;
        told.focus = s.focus;
        try {
            int lines = new Told(places, tokens, told).all();
            act();
            s = told;
            return lines;
        } catch (Fault f) {
            return -2 - f.number;
        }
    }

    private static final class Told {
        private final List<Integer> places;
        private final List<String> tokens;
        private final State told;
        private int i = 0;

        Told(List<Integer> places, List<String> tokens, State told) {
            this.places = places;
            this.tokens = tokens;
            this.told = told;
        }

        Fault no(int kind) {
            return new Fault(places.get(i), kind);
        }

        int number(int low, int high) {
            String t = tokens.get(i);
            if (!t.matches("[0-9]{1,3}")) {
                throw no(1);
            }
            int v = Integer.parseInt(t);
            if (v < low || v > high) {
                throw no(2);
            }
            i++;
            return v;
        }

        void row(int view) {
            int y = number(0, told.h - 1);
            String t = tokens.get(i);
            if (!t.matches("[a-z0-9]+")) {
                throw no(1);
            }
            if (t.length() != told.w) {
                throw no(3);
            }
            for (int x = 0; x < told.w; x++) {
                int v = "0123456789abcdef".indexOf(t.charAt(x));
                if (v < 0) {
                    throw new Fault(places.get(i) + x, 3);
                }
                told.pic[view][y][x] = v;
            }
            i++;
        }

        int all() {
            if (!tokens.get(i).equals("size")) {
                throw no(1);
            }
            i++;
            told.w = number(3, 16);
            told.h = number(3, 12);
            int lines = 0;
            while (!tokens.get(i).isEmpty()) {
                if (!tokens.get(i).equals(";")) {
                    throw no(1);
                }
                i++;
                line();
                lines++;
            }
            return lines;
        }

        void line() {
            String t = tokens.get(i);
            if (!Set.of("most", "window", "penalty", "paths", "slack", "left", "right").contains(t)) {
                throw no(1);
            }
            i++;
            switch (t) {
                case "most" -> told.most = number(1, 7);
                case "window" -> told.window = number(1, 2);
                case "paths" -> told.paths = number(1, 255);
                case "slack" -> told.slack = number(0, 3);
                case "left" -> row(0);
                case "right" -> row(1);
                default -> {
                    told.a = number(0, 60);
                    told.b = number(told.a, 60);
                }
            }
        }
    }

    boolean size(int w, int h) {
        if (w < 3 || w > 16 || h < 3 || h > 12) {
            return false;
        }
        act();
        s.w = w;
        s.h = h;
        s.pic = new int[2][12][16];
        return true;
    }

    int value(int view, int x, int y, int v) {
        if (!has(view, x, y) || v < 0 || v > 15) {
            return NONE;
        }
        act();
        int was = s.pic[view][y][x];
        s.pic[view][y][x] = v;
        return was;
    }

    int tune(int what, int v) {
        int was = what < 0 || what > 7 ? NONE : count(what + 2);
        boolean good = switch (what) {
            case 0 -> v >= 1 && v <= 7;
            case 1 -> v >= 1 && v <= 2;
            case 2 -> v >= 0 && v <= s.b;
            case 3 -> v >= s.a && v <= 60;
            case 4 -> v >= 1 && v <= 255;
            case 5 -> v >= 0 && v <= 3;
            case 6 -> v >= 1 && v <= 50;
            case 7 -> v >= 1 && v <= 999;
            default -> false;
        };
        if (!good) {
            return NONE;
        }
        act();
        switch (what) {
            case 0 -> s.most = v;
            case 1 -> s.window = v;
            case 2 -> s.a = v;
            case 3 -> s.b = v;
            case 4 -> s.paths = v;
            case 5 -> s.slack = v;
            case 6 -> s.least = v;
            default -> s.focus = v;
        }
        return was;
    }

    int layer(int x, int y, int w, int h, int shift, int seed) {
        boolean bad = x < -20 || x > 20 || y < -20 || y > 20 || w < 1 || w > 40 || h < 1 || h > 40
            || shift < 0 || shift > s.most || layers.size() == 6;
        if (bad) {
            return NONE;
        }
        layers.add(new int[] {x, y, w, h, shift, seed});
        return layers.size() - 1;
    }

    int clear() {
        int was = layers.size();
        layers.clear();
        return was;
    }

    private int[] seen(int view, int x, int y) {
        int[] last = null;
        for (int[] l : layers) {
            int i = x - l[0] + view * l[4];
            int j = y - l[1];
            if (i >= 0 && i < l[2] && j >= 0 && j < l[3]) {
                last = l;
            }
        }
        return last;
    }

    int draw() {
        act();
        int n = 0;
        for (int view = 0; view < 2; view++) {
            for (int y = 0; y < s.h; y++) {
                for (int x = 0; x < s.w; x++) {
                    int[] l = seen(view, x, y);
                    int v = 0;
                    if (l != null) {
                        int i = x - (l[0] - (view == 1 ? l[4] : 0));
                        v = l[5] * 31 + i * 7919 + (y - l[1]) * 104729;
                        v = v * 1103515245 + 12345;
                        v = (v >>> 16) % 16;
                        n += view == 0 ? 1 : 0;
                    }
                    s.pic[view][y][x] = v;
                }
            }
        }
        return n;
    }

    int truth(int x, int y, int what) {
        if (!has(0, x, y) || what < 0 || what > 1) {
            return NONE;
        }
        int[] l = seen(0, x, y);
        if (what == 0) {
            return l == null ? NONE : l[4];
        }
        if (l == null) {
            return 0;
        }
        return x - l[4] < 0 || seen(1, x - l[4], y) != l ? 1 : 0;
    }

    int at(int view, int x, int y) {
        need(view, x, y);
        return s.pic[view][y][x];
    }

    private int clamp(int n, int m) {
        return Math.max(0, Math.min(m - 1, n));
    }

    int code(int view, int x, int y) {
        need(view, x, y);
        StringBuilder bits = new StringBuilder();
        for (int dy = -s.window; dy <= s.window; dy++) {
            for (int dx = -s.window; dx <= s.window; dx++) {
                if (dx == 0 && dy == 0) {
                    continue;
                }
                int v = s.pic[view][clamp(y + dy, s.h)][clamp(x + dx, s.w)];
                bits.append(v < s.pic[view][y][x] ? '1' : '0');
            }
        }
        return Integer.parseInt(bits.toString(), 2);
    }

    int same(int view, int x, int y) {
        need(view, x, y);
        int own = code(view, x, y);
        int n = 0;
        for (int v = 0; v < 2; v++) {
            for (int j = 0; j < s.h; j++) {
                for (int i = 0; i < s.w; i++) {
                    n += code(v, i, j) == own ? 1 : 0;
                }
            }
        }
        return n;
    }

    int codes(int view) {
        if (view < 0 || view > 1) {
            return NONE;
        }
        Set<Integer> all = new HashSet<>();
        for (int j = 0; j < s.h; j++) {
            for (int i = 0; i < s.w; i++) {
                all.add(code(view, i, j));
            }
        }
        return all.size();
    }

    int cost(int x, int y, int d) {
        if (!has(0, x, y) || d < 0 || d > s.most) {
            return NONE;
        }
        if (x < d) {
            return s.window == 1 ? 8 : 24;
        }
        return Integer.toBinaryString(code(0, x, y) ^ code(1, x - d, y)).replace("0", "").length();
    }

    int path(int way, int x, int y, int d) {
        if (way < 0 || way > 7 || !has(0, x, y) || d < 0 || d > s.most) {
            return NONE;
        }
        long key = ((way * 16L + x) * 16 + y) * 16 + d;
        Integer known = memo.get(key);
        if (known != null) {
            return known;
        }
        int px = x - WAYS[way][0];
        int py = y - WAYS[way][1];
        int got = cost(x, y, d);
        if (has(0, px, py)) {
            List<Integer> all = new ArrayList<>();
            for (int k = 0; k <= s.most; k++) {
                all.add(path(way, px, py, k));
            }
            int least = all.stream().min(Integer::compare).get();
            List<Integer> ways = new ArrayList<>();
            ways.add(all.get(d));
            if (d > 0) {
                ways.add(all.get(d - 1) + s.a);
            }
            if (d < s.most) {
                ways.add(all.get(d + 1) + s.a);
            }
            ways.add(least + s.b);
            got += ways.stream().min(Integer::compare).get() - least;
        }
        memo.put(key, got);
        return got;
    }

    int sum(int x, int y, int d) {
        if (!has(0, x, y) || d < 0 || d > s.most) {
            return NONE;
        }
        int n = 0;
        for (int way = 0; way < 8; way++) {
            n += (s.paths & 1 << way) != 0 ? path(way, x, y, d) : 0;
        }
        return n;
    }

    int shift(int view, int x, int y) {
        need(view, x, y);
        TreeMap<Integer, Integer> by = new TreeMap<>();
        for (int d = s.most; d >= 0; d--) {
            int at = view == 0 ? x : x + d;
            if (at < s.w) {
                by.put(sum(at, y, d), d);
            }
        }
        return by.firstEntry().getValue();
    }

    int margin(int x, int y) {
        need(0, x, y);
        int own = shift(0, x, y);
        int best = Integer.MAX_VALUE;
        for (int d = 0; d <= s.most; d++) {
            if (d <= own - 2 || d >= own + 2) {
                best = Math.min(best, sum(x, y, d));
            }
        }
        return best == Integer.MAX_VALUE ? NONE : best - sum(x, y, own);
    }

    private int[][] shifts(int view) {
        int[][] m = new int[s.h][s.w];
        for (int y = 0; y < s.h; y++) {
            for (int x = 0; x < s.w; x++) {
                m[y][x] = shift(view, x, y);
            }
        }
        return m;
    }

    private int[][] rawKinds(int view) {
        int[][] own = shifts(view);
        int[][] other = shifts(1 - view);
        int go = view == 0 ? -1 : 1;
        int[][] k = new int[s.h][s.w];
        for (int y = 0; y < s.h; y++) {
            for (int x = 0; x < s.w; x++) {
                int there = x + go * own[y][x];
                boolean sure = there >= 0 && there < s.w
                    && Math.abs(other[y][there] - own[y][x]) <= s.slack;
                boolean hit = false;
                for (int i = 0; i < s.w; i++) {
                    hit |= i - go * other[y][i] == x;
                }
                k[y][x] = sure ? 0 : hit ? 1 : 2;
            }
        }
        return k;
    }

    /** Labels: of each sure place the number (row by row) of the first place of its piece. */
    private int[][] labels(int view) {
        int[][] sh = shifts(view);
        int[][] k = rawKinds(view);
        int[][] l = new int[s.h][s.w];
        for (int y = 0; y < s.h; y++) {
            for (int x = 0; x < s.w; x++) {
                l[y][x] = k[y][x] == 0 ? y * 100 + x : NONE;
            }
        }
        for (boolean more = true; more;) {
            more = false;
            for (int y = 0; y < s.h; y++) {
                for (int x = 0; x < s.w; x++) {
                    for (int way = 0; way < 4; way++) {
                        int i = x + WAYS[way][0];
                        int j = y + WAYS[way][1];
                        if (has(0, i, j) && l[y][x] != NONE && l[j][i] != NONE
                            && Math.abs(sh[y][x] - sh[j][i]) < 2 && l[j][i] < l[y][x]) {
                            l[y][x] = l[j][i];
                            more = true;
                        }
                    }
                }
            }
        }
        return l;
    }

    private TreeMap<Integer, Integer> sizes(int view) {
        TreeMap<Integer, Integer> n = new TreeMap<>();
        for (int[] line : labels(view)) {
            for (int l : line) {
                if (l != NONE) {
                    n.merge(l, 1, Integer::sum);
                }
            }
        }
        return n;
    }

    private int[][] kindMap(int view) {
        int[][] k = rawKinds(view);
        int[][] l = labels(view);
        Map<Integer, Integer> n = sizes(view);
        for (int y = 0; y < s.h; y++) {
            for (int x = 0; x < s.w; x++) {
                if (l[y][x] != NONE && n.get(l[y][x]) < s.least) {
                    k[y][x] = 1;
                }
            }
        }
        return k;
    }

    int kind(int view, int x, int y) {
        return has(view, x, y) ? kindMap(view)[y][x] : NONE;
    }

    int kinds(int view, int kind) {
        if (view < 0 || view > 1 || kind < 0 || kind > 2) {
            return NONE;
        }
        int n = 0;
        for (int[] line : kindMap(view)) {
            for (int k : line) {
                n += k == kind ? 1 : 0;
            }
        }
        return n;
    }

    int piece(int view, int x, int y) {
        if (!has(view, x, y)) {
            return NONE;
        }
        int l = labels(view)[y][x];
        return l == NONE ? 0 : sizes(view).get(l);
    }

    private List<Integer> order(int view) {
        TreeMap<Integer, Integer> n = sizes(view);
        List<Integer> all = new ArrayList<>();
        for (int l : n.keySet()) {
            if (n.get(l) >= s.least) {
                all.add(l);
            }
        }
        // the sort is stable: like ones stay as their first places lie
        all.sort((p, q) -> n.get(q) - n.get(p));
        return all;
    }

    int pieces(int view, int what) {
        if (view < 0 || view > 1 || what < 0 || what > 1) {
            return NONE;
        }
        List<Integer> all = order(view);
        if (what == 0) {
            return all.size();
        }
        return all.isEmpty() ? 0 : sizes(view).get(all.get(0));
    }

    int pieceAt(int view, int i, int what) {
        if (view < 0 || view > 1 || what < 0 || what > 7 || i < 0 || i >= order(view).size()) {
            return NONE;
        }
        int own = order(view).get(i);
        int[][] l = labels(view);
        int[][] sh = shifts(view);
        List<Integer> xs = new ArrayList<>();
        List<Integer> ys = new ArrayList<>();
        int together = 0;
        for (int y = 0; y < s.h; y++) {
            for (int x = 0; x < s.w; x++) {
                if (l[y][x] == own) {
                    xs.add(x);
                    ys.add(y);
                    together += sh[y][x];
                }
            }
        }
        return switch (what) {
            case 0 -> xs.size();
            case 1 -> own % 100;
            case 2 -> own / 100;
            case 3 -> xs.stream().min(Integer::compare).get();
            case 4 -> ys.stream().min(Integer::compare).get();
            case 5 -> xs.stream().max(Integer::compare).get();
            case 6 -> ys.stream().max(Integer::compare).get();
            default -> together;
        };
    }

    int fine(int x, int y) {
        need(0, x, y);
        int d = shift(0, x, y);
        int l = sum(x, y, d - 1);
        int c = sum(x, y, d);
        int r = sum(x, y, d + 1);
        if (l == NONE || r == NONE || l + r - 2 * c <= 0) {
            return 16 * d;
        }
        return 16 * d + (int) Math.floor(8.0 * (l - r) / (l + r - 2 * c));
    }

    int votes(int p, int q) {
        if (p < 0 || p > 8 * s.most || q < 0 || q > 8) {
            return NONE;
        }
        return votes(p, q, shifts(0), kindMap(0));
    }

    private int votes(int p, int q, int[][] sh, int[][] k) {
        int n = 0;
        for (int y = 0; y < s.h; y++) {
            for (int x = 0; x < s.w; x++) {
                n += k[y][x] == 0 && sh[y][x] == (p + q * y + 4) / 8 ? 1 : 0;
            }
        }
        return n;
    }

    int ground(int what) {
        if (what < 0 || what > 2 || kinds(0, 0) == 0) {
            return NONE;
        }
        int[][] sh = shifts(0);
        int[][] k = kindMap(0);
        int[] best = {NONE, NONE, NONE};
        for (int p = 8 * s.most; p >= 0; p--) {
            for (int q = 8; q >= 0; q--) {
                int n = votes(p, q, sh, k);
                boolean better = n > best[2] || n == best[2] && (q < best[1] || q == best[1] && p < best[0]);
                if (better) {
                    best = new int[] {p, q, n};
                }
            }
        }
        return best[what];
    }

    private int[][] filledMap(int view) {
        int[][] sh = shifts(view);
        int[][] k = kindMap(view);
        int[][] f = new int[s.h][s.w];
        for (int y = 0; y < s.h; y++) {
            for (int x = 0; x < s.w; x++) {
                List<Integer> near = new ArrayList<>();
                for (int way = 0; way < (k[y][x] == 2 ? 2 : 8); way++) {
                    int i = x + WAYS[way][0];
                    int j = y + WAYS[way][1];
                    while (has(0, i, j) && k[j][i] != 0) {
                        i += WAYS[way][0];
                        j += WAYS[way][1];
                    }
                    if (has(0, i, j)) {
                        near.add(sh[j][i]);
                    }
                }
                near.sort(Integer::compare);
                if (k[y][x] == 0) {
                    f[y][x] = sh[y][x];
                } else if (near.isEmpty()) {
                    f[y][x] = 0;
                } else if (k[y][x] == 2) {
                    f[y][x] = near.get(0);
                } else {
                    f[y][x] = near.get((near.size() - 1) / 2);
                }
            }
        }
        return f;
    }

    /** What comes where at t: the whole picture, -2 for holes. */
    private int[][] betweenMap(int t) {
        int[][] out = new int[s.h][s.w];
        int[][][] by = new int[2][s.h][s.w];
        for (int y = 0; y < s.h; y++) {
            Arrays.fill(out[y], -2);
            Arrays.fill(by[0][y], NONE);
            Arrays.fill(by[1][y], NONE);
        }
        for (int view = 1; view >= 0; view--) {
            int[][] f = filledMap(view);
            for (int y = 0; y < s.h; y++) {
                for (int x = 0; x < s.w; x++) {
                    int to = view == 0 ? x - (t * f[y][x] + 2) / 4 : x + ((4 - t) * f[y][x] + 2) / 4;
                    if (to >= 0 && to < s.w && f[y][x] > by[view][y][to]) {
                        by[view][y][to] = f[y][x];
                        out[y][to] = s.pic[view][y][x];
                    }
                }
            }
        }
        return out;
    }

    int between(int t, int x, int y) {
        return t < 0 || t > 4 || !has(0, x, y) ? NONE : betweenMap(t)[y][x];
    }

    int holes(int t) {
        if (t < 0 || t > 4) {
            return NONE;
        }
        int n = 0;
        for (int[] line : betweenMap(t)) {
            for (int v : line) {
                n += v == -2 ? 1 : 0;
            }
        }
        return n;
    }

    int filled(int view, int x, int y) {
        need(view, x, y);
        return filledMap(view)[y][x];
    }

    int depth(int x, int y) {
        need(0, x, y);
        int f = filledMap(0)[y][x];
        return f == 0 ? -2 : s.focus / f;
    }

    private int step(int d, int e) {
        int apart = Math.abs(d - e);
        return apart == 0 ? 0 : apart == 1 ? s.a : s.b;
    }

    /** Of each way's end at x by d the least: its cost behind all its shifts, the right end first. */
    private int[] bestRow(int y) {
        List<int[]> ends = new ArrayList<>();
        for (int d = 0; d <= s.most; d++) {
            ends.add(new int[] {cost(0, y, d), d});
        }
        for (int x = 1; x < s.w; x++) {
            List<int[]> next = new ArrayList<>();
            for (int d = 0; d <= s.most; d++) {
                int[] best = null;
                for (int[] e : ends) {
                    int[] longer = new int[e.length + 1];
                    longer[0] = e[0] + cost(x, y, d) + step(d, e[1]);
                    longer[1] = d;
                    System.arraycopy(e, 1, longer, 2, e.length - 1);
                    best = best == null || Arrays.compare(longer, best) < 0 ? longer : best;
                }
                next.add(best);
            }
            ends = next;
        }
        ends.sort(Arrays::compare);
        return ends.get(0);
    }

    int row(int y, int x) {
        if (!has(0, 0, y) || x < -1 || x >= s.w) {
            return NONE;
        }
        int[] best = bestRow(y);
        return x == -1 ? best[0] : best[s.w - x];
    }

    int energy(int what) {
        if (what < 0 || what > 2) {
            return NONE;
        }
        int n = 0;
        if (what == 2) {
            for (int y = 0; y < s.h; y++) {
                n += bestRow(y)[0];
            }
            return n;
        }
        int[][] m = what == 0 ? filledMap(0) : shifts(0);
        for (int y = 0; y < s.h; y++) {
            for (int x = 0; x < s.w; x++) {
                n += cost(x, y, m[y][x]);
                n += x > 0 ? step(m[y][x - 1], m[y][x]) : 0;
                n += y > 0 ? step(m[y - 1][x], m[y][x]) : 0;
            }
        }
        return n;
    }

    int wrong(int by, int what) {
        if (by < 0 || by > 7 || what < 0 || what > 2) {
            return NONE;
        }
        int[][] f = filledMap(0);
        int n = 0;
        for (int y = 0; y < s.h; y++) {
            for (int x = 0; x < s.w; x++) {
                int[] l = seen(0, x, y);
                if (l != null && Math.abs(f[y][x] - l[4]) > by) {
                    n += what == 0 || what == 1 && truth(x, y, 1) == 1 || what == 2 && truth(x, y, 1) == 0 ? 1 : 0;
                }
            }
        }
        return n;
    }

    int undo() {
        if (past.isEmpty()) {
            return NONE;
        }
        s = past.removeLast();
        memo.clear();
        return past.size();
    }

    boolean image(int i) {
        if (i < 0 || i > 1) {
            return false;
        }
        images[i] = s.copy();
        imageLayers.set(i, new ArrayList<>(layers));
        return true;
    }

    boolean back(int i) {
        if (i < 0 || i > 1 || images[i] == null) {
            return false;
        }
        s = images[i].copy();
        layers = new ArrayList<>(imageLayers.get(i));
        past.clear();
        memo.clear();
        return true;
    }

    int count(int what) {
        int[] all = {
            s.w, s.h, s.most, s.window, s.a, s.b, s.paths, s.slack, s.least, s.focus,
            layers.size(), past.size(), tape.size()
        };
        return what < 0 || what > 12 ? NONE : all[what];
    }
}
