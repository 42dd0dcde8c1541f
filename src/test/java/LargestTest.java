import java.util.ArrayList;
import java.util.Arrays;
import java.util.HashMap;
import java.util.HashSet;
import java.util.List;
import java.util.Map;
import java.util.Set;

/** 16 by 12: whatever goes over all PLACES goes over these, each once, and over no other. */
public final class LargestTest {
    private static final Check CHECK = new Check();
    private static final int W = 16;
    private static final int H = 12;
    private static final int[][][] VALUES = values();

    private interface Made {
        Counted anew();
    }

    private interface Place {
        int answer(int x, int y);
    }

    private LargestTest() {
    }

    private static void due(String call, long got, long want) {
        CHECK.due(call, got, want);
    }

    /** RIGHT has what LEFT has 1, 3, 5 to its right, row by row, with some signs of its own. */
    private static int[][][] values() {
        int[][][] all = new int[2][H][W];
        int state = 20;
        for (int y = 0; y < H; y++) {
            int[] signs = new int[W + 8];
            for (int i = 0; i < signs.length; i++) {
                state = state * 1103515245 + 12345;
                signs[i] = state >>> 16 & 15;
            }
            int shift = 1 + y / 4 * 2;
            for (int x = 0; x < W; x++) {
                all[0][y][x] = signs[x];
                all[1][y][x] = x % 7 == 6 ? signs[W + 7] : signs[x + shift];
            }
        }
        return all;
    }

    private static Counted largest() {
        String[] rows = new String[2];
        for (int view = 0; view < 2; view++) {
            StringBuilder told = new StringBuilder();
            for (int y = 0; y < H; y++) {
                told.append(y == 0 ? "" : "/");
                for (int x = 0; x < W; x++) {
                    told.append(Integer.toHexString(VALUES[view][y][x]));
                }
            }
            rows[view] = told.toString();
        }
        return Rows.tell(";most 7", rows[0], rows[1]);
    }

    private static int[][] map(Place asked) {
        int[][] all = new int[H][W];
        for (int y = 0; y < H; y++) {
            for (int x = 0; x < W; x++) {
                all[y][x] = asked.answer(x, y);
            }
        }
        return all;
    }

    /** Found by trying: nearly every PLACE is a PIECE of its own, 178 of LEFT. */
    private static Counted torn() {
        String left = "9953f4f542dd4de4/89a06a1a443f35dc/30cd92f5d43bd5de/ca7aa04d08cacd54/"
            + "42c3c17f02d07e06/68f9a9780451cdba/394be98432354ed4/98c7e3a76ea3e93e/"
            + "e9155aeeee8b55ac/060f3aeaea5e627a/88df0f67c81823b9/5cf92f6a5c6942c8";
        String right = "4d05866355fc84fb/43a38e2d2d66f7b1/662e56e0af679260/b17c6f38a5faf07b/"
            + "d0658184926d0e4e/1adfe6ff093a3a3a/ec7673a5a340e43c/b1e2e8df06871f52/"
            + "57a162d331d930bf/b512175de8018e01/2612cbe484a90841/91ad2c3d1f0cf6e7";
        return Rows.tell(";most 7;slack 3" + Rows.PLAIN, left, right);
    }

    private static int[][] shiftMap(Made made, int view) {
        Counted v = made.anew();
        return map((x, y) -> v.shift(view, x, y));
    }

    private static int[][] kindMap(Made made, int view) {
        Counted v = made.anew();
        return map((x, y) -> v.kind(view, x, y));
    }

    private static int[][] filledMap(int view) {
        Counted v = largest();
        return map((x, y) -> v.filled(view, x, y));
    }

    private static void codes() {
        Map<Integer, Integer> often = new HashMap<>();
        Counted v = largest();
        for (int view = 0; view < 2; view++) {
            int k = view;
            Set<Integer> unlike = new HashSet<>();
            for (int[] line : map((x, y) -> v.code(k, x, y))) {
                for (int code : line) {
                    unlike.add(code);
                    often.merge(code, 1, Integer::sum);
                }
            }
            due("codes(" + view + ")", v.codes(view), unlike.size());
        }
        for (int x = 0; x < W; x++) {
            due("same", v.same(0, x, 11), often.get(v.code(0, x, 11)));
            due("same", v.same(1, x, 0), often.get(v.code(1, x, 0)));
        }
    }

    private static void kinds() {
        for (int view = 0; view < 2; view++) {
            int[] found = new int[3];
            for (int[] line : kindMap(LargestTest::largest, view)) {
                for (int kind : line) {
                    found[kind]++;
                }
            }
            Counted v = largest();
            for (int kind = 0; kind < 3; kind++) {
                due("kinds(" + view + ", " + kind + ")", v.kinds(view, kind), found[kind]);
                due("there are some", found[kind] > 0 ? 1 : 0, 1);
            }
        }
    }

    private static void grow(int[][] kinds, int[][] shifts, int[][] piece, int number, List<int[]> places) {
        for (int i = 0; i < places.size(); i++) {
            int x = places.get(i)[0];
            int y = places.get(i)[1];
            piece[y][x] = number;
            int[][] sides = {{x + 1, y}, {x - 1, y}, {x, y + 1}, {x, y - 1}};
            for (int[] s : sides) {
                boolean there = s[0] >= 0 && s[0] < W && s[1] >= 0 && s[1] < H;
                if (there && kinds[s[1]][s[0]] == 0 && piece[s[1]][s[0]] < 0
                    && Math.abs(shifts[s[1]][s[0]] - shifts[y][x]) <= 1) {
                    piece[s[1]][s[0]] = number;
                    places.add(s);
                }
            }
        }
    }

    /** All PIECES, by their places, the most first; the sort leaves like ones as they lie. */
    private static List<List<int[]>> pieceList(Made made, int view) {
        int[][] kinds = kindMap(made, view);
        int[][] shifts = shiftMap(made, view);
        int[][] piece = map((x, y) -> -1);
        List<List<int[]>> all = new ArrayList<>();
        for (int y = 0; y < H; y++) {
            for (int x = 0; x < W; x++) {
                if (kinds[y][x] == 0 && piece[y][x] < 0) {
                    List<int[]> places = new ArrayList<>();
                    places.add(new int[] {x, y});
                    grow(kinds, shifts, piece, all.size(), places);
                    all.add(places);
                }
            }
        }
        all.sort((p, q) -> q.size() - p.size());
        return all;
    }

    private static void pieces(Made made, int ofLeftAtLeast) {
        for (int view = 0; view < 2; view++) {
            List<List<int[]>> all = pieceList(made, view);
            int[][] shifts = shiftMap(made, view);
            Counted v = made.anew();
            due("pieces(" + view + ", 0)", v.pieces(view, 0), all.size());
            due("there are some", all.size() >= (view == 0 ? ofLeftAtLeast : 5) ? 1 : 0, 1);
            due("pieces(" + view + ", 1)", v.pieces(view, 1), all.get(0).size());
            for (int i = 0; i < all.size(); i++) {
                List<int[]> p = all.get(i);
                int together = p.stream().mapToInt(s -> shifts[s[1]][s[0]]).sum();
                int[] want = {
                    p.size(), p.get(0)[0], p.get(0)[1],
                    p.stream().mapToInt(s -> s[0]).min().orElse(-9), p.stream().mapToInt(s -> s[1]).min().orElse(-9),
                    p.stream().mapToInt(s -> s[0]).max().orElse(-9), p.stream().mapToInt(s -> s[1]).max().orElse(-9),
                    together
                };
                if (v.calls() + 9 > Counted.CALLS) {
                    v = made.anew();
                }
                for (int what = 0; what < 8; what++) {
                    due("pieceAt(" + view + ", " + i + ", " + what + ")", v.pieceAt(view, i, what), want[what]);
                }
            }
            due("none behind the last", v.pieceAt(view, all.size(), 0), -1);
        }
    }

    private static void lines() {
        int[][] kinds = kindMap(LargestTest::largest, 0);
        int[][] shifts = shiftMap(LargestTest::largest, 0);
        int[] best = {-1, -1, -1};
        Counted v = largest();
        for (int q = 0; q <= 8; q++) {
            for (int p = 0; p <= 56; p++) {
                int votes = 0;
                for (int y = 0; y < H; y++) {
                    for (int x = 0; x < W; x++) {
                        votes += kinds[y][x] == 0 && shifts[y][x] == (p + q * y + 4) / 8 ? 1 : 0;
                    }
                }
                if (votes > best[2]) {
                    best = new int[] {p, q, votes};
                }
                if (p % 4 == q % 4) {
                    due("votes(" + p + ", " + q + ")", v.votes(p, q), votes);
                }
            }
        }
        for (int what = 0; what < 3; what++) {
            due("ground(" + what + ")", v.ground(what), best[what]);
        }
    }

    /** What comes of a view to each place of a row; -1 where none does. */
    private static int[] comes(int view, int t, int y, int[][] filled) {
        int[] from = new int[W];
        for (int x = 0; x < W; x++) {
            from[x] = -1;
        }
        for (int x = W - 1; x >= 0; x--) {
            int f = filled[y][x];
            int to = view == 0 ? x - (t * f + 2) / 4 : x + ((4 - t) * f + 2) / 4;
            if (to >= 0 && to < W && (from[to] < 0 || f >= filled[y][from[to]])) {
                from[to] = x;
            }
        }
        return from;
    }

    private static void between() {
        int[][] left = filledMap(0);
        int[][] right = filledMap(1);
        int holesAtAll = 0;
        for (int t = 0; t <= 4; t++) {
            Counted v = largest();
            int holes = 0;
            for (int y = 0; y < H; y++) {
                int[] fromLeft = comes(0, t, y, left);
                int[] fromRight = comes(1, t, y, right);
                for (int x = 0; x < W; x++) {
                    int want = fromLeft[x] >= 0 ? VALUES[0][y][fromLeft[x]]
                        : fromRight[x] >= 0 ? VALUES[1][y][fromRight[x]] : -2;
                    holes += want == -2 ? 1 : 0;
                    due("between(" + t + ", " + x + ", " + y + ")", v.between(t, x, y), want);
                }
            }
            due("holes(" + t + ")", v.holes(t), holes);
            holesAtAll += holes;
        }
        due("there are some", holesAtAll > 0 ? 1 : 0, 1);
    }

    private static int nearest(int[][] kinds, int[][] shifts, int x, int y, int[] way) {
        int i = x + way[0];
        int j = y + way[1];
        while (i >= 0 && i < W && j >= 0 && j < H) {
            if (kinds[j][i] == 0) {
                return shifts[j][i];
            }
            i += way[0];
            j += way[1];
        }
        return -1;
    }

    private static int fillingOf(int[][] kinds, int[][] shifts, int x, int y) {
        int[][] ways = {{1, 0}, {-1, 0}, {0, 1}, {0, -1}, {1, 1}, {-1, -1}, {1, -1}, {-1, 1}};
        if (kinds[y][x] == 0) {
            return shifts[y][x];
        }
        List<Integer> near = new ArrayList<>();
        for (int way = 0; way < (kinds[y][x] == 2 ? 2 : 8); way++) {
            int shift = nearest(kinds, shifts, x, y, ways[way]);
            if (shift >= 0) {
                near.add(shift);
            }
        }
        near.sort(Integer::compare);
        return near.isEmpty() ? 0 : kinds[y][x] == 2 ? near.get(0) : near.get((near.size() - 1) / 2);
    }

    private static void filled(Made made) {
        for (int view = 0; view < 2; view++) {
            int[][] kinds = kindMap(made, view);
            int[][] shifts = shiftMap(made, view);
            Counted v = made.anew();
            for (int y = 0; y < H; y++) {
                for (int x = 0; x < W; x++) {
                    String call = "filled(" + view + ", " + x + ", " + y + ")";
                    due(call, v.filled(view, x, y), fillingOf(kinds, shifts, x, y));
                }
            }
        }
    }

    /** Of the ways that end by d the least one: its price, then its SHIFTS from the right end on. */
    private static int[] longer(List<int[]> ends, int cost, int d) {
        int[] best = null;
        for (int[] e : ends) {
            int apart = Math.abs(e[1] - d);
            int[] more = new int[e.length + 1];
            System.arraycopy(e, 1, more, 2, e.length - 1);
            more[0] = e[0] + cost + (apart == 0 ? 0 : apart == 1 ? 2 : 6);
            more[1] = d;
            best = best == null || Arrays.compare(more, best) < 0 ? more : best;
        }
        return best;
    }

    private static void rows() {
        for (int y : new int[] {0, 5, 11}) {
            Counted v = largest();
            List<int[]> ends = new ArrayList<>();
            for (int d = 0; d <= 7; d++) {
                ends.add(new int[] {v.cost(0, y, d), d});
            }
            for (int x = 1; x < W; x++) {
                List<int[]> next = new ArrayList<>();
                for (int d = 0; d <= 7; d++) {
                    next.add(longer(ends, v.cost(x, y, d), d));
                }
                ends = next;
            }
            ends.sort(Arrays::compare);
            int[] best = ends.get(0);
            due("row(" + y + ", -1)", v.row(y, -1), best[0]);
            for (int x = 0; x < W; x++) {
                due("row(" + y + ", " + x + ")", v.row(y, x), best[W - x]);
            }
        }
    }

    private static void energy() {
        for (int what = 0; what < 2; what++) {
            int[][] m = what == 0 ? filledMap(0) : shiftMap(LargestTest::largest, 0);
            Counted v = largest();
            int want = 0;
            for (int y = 0; y < H; y++) {
                for (int x = 0; x < W; x++) {
                    int beside = x + 1 < W ? Math.abs(m[y][x] - m[y][x + 1]) : 0;
                    int below = y + 1 < H ? Math.abs(m[y][x] - m[y + 1][x]) : 0;
                    want += v.cost(x, y, m[y][x]) + (beside == 0 ? 0 : beside == 1 ? 2 : 6)
                        + (below == 0 ? 0 : below == 1 ? 2 : 6);
                }
            }
            due("energy(" + what + ")", v.energy(what), want);
        }
        Counted v = largest();
        int rows = 0;
        for (int y = 0; y < H; y++) {
            rows += v.row(y, -1);
        }
        due("energy(2)", v.energy(2), rows);
    }

    /** A wall of 3 and a plate of 5 that are told, not drawn: FILLED is as it was. */
    private static void wrong() {
        int[][] filled = filledMap(0);
        Counted v = largest();
        v.layer(-20, -20, 40, 40, 3, 1);
        v.layer(6, 4, 6, 20, 5, 1);
        int[][] covered = map((x, y) -> v.truth(x, y, 1));
        for (int by = 0; by <= 7; by++) {
            int[] want = new int[3];
            for (int y = 0; y < H; y++) {
                for (int x = 0; x < W; x++) {
                    int truth = x >= 6 && x < 12 && y >= 4 ? 5 : 3;
                    if (Math.abs(filled[y][x] - truth) > by) {
                        want[0]++;
                        want[covered[y][x] == 1 ? 1 : 2]++;
                    }
                }
            }
            for (int what = 0; what < 3; what++) {
                due("wrong(" + by + ", " + what + ")", v.wrong(by, what), want[what]);
            }
        }
    }

    public static void main(String[] args) {
        CHECK.sentence(13, "same and codes, 16 by 12", LargestTest::codes);
        CHECK.sentence(21, "kinds, 16 by 12", LargestTest::kinds);
        CHECK.sentence(24, "pieces and pieceAt, 16 by 12", () -> pieces(LargestTest::largest, 5));
        CHECK.sentence(24, "pieces and pieceAt, more than a hundred", () -> pieces(LargestTest::torn, 100));
        CHECK.sentence(26, "ground and votes, 16 by 12", LargestTest::lines);
        CHECK.sentence(29, "between and holes, 16 by 12", LargestTest::between);
        CHECK.sentence(30, "filled, 16 by 12", () -> filled(LargestTest::largest));
        CHECK.sentence(30, "filled, where hardly two hang together", () -> filled(LargestTest::torn));
        CHECK.sentence(32, "row, 16 by 12", LargestTest::rows);
        CHECK.sentence(33, "energy, 16 by 12", LargestTest::energy);
        CHECK.sentence(34, "wrong, 16 by 12", LargestTest::wrong);
        CHECK.end();
    }
}
