/** The edges of CODES, COSTS, ways, SUMS, SHIFTS, ROWS and ENERGY: promises 12 to 19, 32 and 33. */
public final class MatchBoundsTest {
    private static final int NONE = TwoViews.NONE;
    private static final int FAR_OUT = Integer.MAX_VALUE;
    private static final int FAR_BELOW = Integer.MIN_VALUE;
    private static final Check CHECK = new Check();
    private static final int[][] WAYS = {
        {1, 0}, {-1, 0}, {0, 1}, {0, -1}, {1, 1}, {-1, -1}, {1, -1}, {-1, 1}
    };

    private MatchBoundsTest() {
    }

    private static void due(String call, long got, long want) {
        CHECK.due(call, got, want);
    }

    private static void due(String call, String got, String want) {
        CHECK.due(call, got, want);
    }

    // 12: code

    /** Around the middle of 5 by 5, one place after another is below it. */
    private static void bitsInOrder() {
        for (int view = 0; view < 2; view++) {
            for (int window = 1; window <= 2; window++) {
                Counted v = new Counted();
                v.size(5, 5);
                v.tune(1, window);
                for (int i = 0; i < 25; i++) {
                    v.value(view, i % 5, i / 5, 9);
                }
                int bit = window == 1 ? 1 << 7 : 1 << 23;
                for (int i = 0; i < 25; i++) {
                    boolean within = Math.abs(i % 5 - 2) <= window && Math.abs(i / 5 - 2) <= window;
                    boolean counts = within && i != 12;
                    if (i != 12) {
                        v.value(view, i % 5, i / 5, 8);
                    }
                    due("WINDOW " + window + ", place " + i, v.code(view, 2, 2), counts ? bit : 0);
                    v.value(view, i % 5, i / 5, 9);
                    bit = counts ? bit >> 1 : bit;
                }
                due("all bits are told", bit, 0);
            }
        }
    }

    private static void allBits() {
        for (int window = 1; window <= 2; window++) {
            Counted v = new Counted();
            v.size(5, 5);
            v.tune(1, window);
            due("none below", v.code(0, 2, 2), 0);
            v.value(0, 2, 2, 1);
            due("BITS", v.code(0, 2, 2), window == 1 ? 255 : 0xffffff);
            due("above is not below", v.code(0, 1, 1), 0);
            v.value(0, 2, 2, 0);
            due("like is not below", v.code(0, 2, 2), 0);
        }
    }

    /** VALUES of 0 and 15, the ends. */
    private static void endsOfValues() {
        Counted v = Rows.tell("", "fff/f0f/fff", "000/0f0/000");
        due("0 among 15", v.code(0, 1, 1), 0);
        due("15 above one 0 to its right and below", v.code(0, 0, 0), 1);
        due("15 among 0", v.code(1, 1, 1), 255);
        due("0 beside 15", v.code(1, 0, 0), 0);
    }

    private static void nearestPlaceWindow1() {
        Counted v = Rows.tell("", "123/456/789", "987/654/321");
        int[] want = {0, 144, 144, 224, 240, 240, 224, 244, 244};
        for (int i = 0; i < 9; i++) {
            due("LEFT " + i, v.code(0, i % 3, i / 3), want[i]);
        }
        // RIGHT told from the end is LEFT: its bits stand the other way round
        for (int i = 0; i < 9; i++) {
            int back = Integer.reverse(want[8 - i]) >>> 24;
            due("RIGHT " + i, v.code(1, i % 3, i / 3), back);
        }
    }

    private static void nearestPlaceWindow2() {
        Counted v = Rows.tell(";window 2", "123/456/789", "000/000/000");
        int[] want = {
            0b00000_00000_0000_00000_00000, 0b11000_11000_1100_00000_00000, 0b11000_11000_1100_00000_00000,
            0b11111_11111_0000_00000_00000, 0b11111_11111_1100_00000_00000, 0b11111_11111_1100_00000_00000,
            0b11111_11111_0000_00000_00000, 0b11111_11111_1100_11000_11000, 0b11111_11111_1100_11000_11000
        };
        for (int i = 0; i < 9; i++) {
            due("LEFT " + i, v.code(0, i % 3, i / 3), want[i]);
            due("RIGHT " + i, v.code(1, i % 3, i / 3), 0);
        }
    }

    /** In each corner of the largest picture one place is below: it counts for all beyond it. */
    private static void cornersOfTheLargest() {
        int[] near = {
            0b11000_11000_0000_00000_00000, 0b00011_00011_0000_00000_00000,
            0b00000_00000_0000_11000_11000, 0b00000_00000_0000_00011_00011
        };
        for (int view = 0; view < 2; view++) {
            for (int corner = 0; corner < 4; corner++) {
                Counted v = new Counted();
                v.size(16, 12);
                v.tune(1, 2);
                int x = corner % 2 == 0 ? 1 : 14;
                int y = corner / 2 == 0 ? 1 : 10;
                v.value(view, x, y, 1);
                int others = 0xffffff;
                due("beside a corner", v.code(view, x, y), others);
                int cx = corner % 2 == 0 ? 0 : 15;
                int cy = corner / 2 == 0 ? 0 : 11;
                v.value(view, cx, cy, 1);
                due("without the corner's bits", v.code(view, x, y), others & ~near[corner]);
                due("the corner itself", v.code(view, cx, cy) & near[corner], 0);
            }
        }
    }

    // 13, 14: same, codes

    private static void sameAtLeastAndMost() {
        Counted least = Rows.tell("", "000/010/000", "000/000/000");
        due("it alone", least.same(0, 1, 1), 1);
        due("all others", least.same(0, 0, 0), 17);
        due("all others", least.same(1, 1, 1), 17);
        Counted v = new Counted();
        v.size(16, 12);
        due("all of both views", v.same(1, 15, 11), 384);
        v.value(0, 0, 0, 1);
        // 0, 0 sees itself beyond the edge, and its neighbours see what is above them
        due("without one", v.same(1, 15, 11), 383);
        due("that one", v.same(0, 0, 0), 1);
    }

    private static void codesAtLeastAndMost() {
        Counted v = Rows.tell("", "111/101/111", "000/000/000");
        due("all are unlike", v.codes(0), 9);
        due("all are alike", v.codes(1), 1);
        for (int view : new int[] {-1, 2, FAR_OUT, FAR_BELOW}) {
            due("view " + view, v.codes(view), NONE);
        }
        Counted w = new Counted();
        w.size(16, 12);
        w.value(1, 15, 11, 15);
        due("one in the last corner", w.codes(1), 2);
        due("none", w.codes(0), 1);
    }

    // 15: cost

    private static void costBeyondTheEdge() {
        for (int window = 1; window <= 2; window++) {
            Counted v = new Counted();
            v.size(9, 3);
            v.tune(0, 7);
            v.tune(1, window);
            int bits = window == 1 ? 8 : 24;
            for (int x = 0; x < 9; x++) {
                for (int d = 0; d <= 7; d++) {
                    due("cost(" + x + ", 1, " + d + ")", v.cost(x, 1, d), x - d < 0 ? bits : 0);
                }
            }
        }
    }

    private static void costOfShifts() {
        for (int most = 1; most <= 7; most++) {
            Counted v = new Counted();
            v.tune(0, most);
            due("by MOST " + most, v.cost(7, 5, most), 0);
            due("by MOST + 1", v.cost(7, 5, most + 1), NONE);
            due("by 0", v.cost(7, 5, 0), 0);
            for (int d : new int[] {-1, 8, FAR_OUT, FAR_BELOW}) {
                due("by " + d, v.cost(7, 5, d), NONE);
            }
        }
    }

    private static void costsOfAllBits() {
        Counted v = new Counted();
        v.size(5, 5);
        v.value(0, 2, 2, 1);
        due("8 unlike", v.cost(2, 2, 0), 8);
        due("8 unlike by 2", v.cost(2, 2, 2), 8);
        v.tune(1, 2);
        due("24 unlike", v.cost(2, 2, 0), 24);
        v.value(1, 2, 2, 1);
        due("alike", v.cost(2, 2, 0), 0);
        due("alike no more by 1", v.cost(2, 2, 1), 24);
        due("RIGHT is seen at x - 2", v.cost(4, 2, 2), 24);
    }

    // 16: path

    private static void pathArguments() {
        Counted v = new Counted();
        for (int way = 0; way < 8; way++) {
            due("way " + way, v.path(way, 7, 5, 0), 0);
            due("way " + way + " by MOST", v.path(way, 7, 5, 3) >= 0 ? 1 : 0, 1);
            due("way " + way + " by MOST + 1", v.path(way, 7, 5, 4), NONE);
            due("way " + way + " by -1", v.path(way, 7, 5, -1), NONE);
        }
        for (int n : new int[] {-1, 8, 9, FAR_OUT, FAR_BELOW}) {
            due("way " + n, v.path(n, 0, 0, 0), NONE);
            due("by " + n, v.path(0, 0, 0, n), NONE);
        }
    }

    /** What a way tells by what it tells at the place ahead, word by word. */
    private static void pathsBySentence(String lines, int most) {
        for (int way = 0; way < 8; way++) {
            Counted v = Rows.tell(lines, "159/2a7/3c0", "951/7a2/0c3");
            v.tune(0, 7);
            v.path(way, 2, 2, 7);
            v.tune(0, most);
            int a = v.count(4);
            int b = v.count(5);
            for (int i = 0; i < 9; i++) {
                int x = i % 3;
                int y = i / 3;
                int px = x - WAYS[way][0];
                int py = y - WAYS[way][1];
                boolean ahead = px >= 0 && px < 3 && py >= 0 && py < 3;
                int[] before = new int[most + 1];
                int least = FAR_OUT;
                for (int d = 0; ahead && d <= most; d++) {
                    before[d] = v.path(way, px, py, d);
                    least = Math.min(least, before[d]);
                }
                for (int d = 0; d <= most; d++) {
                    int want = v.cost(x, y, d);
                    if (ahead) {
                        int best = Math.min(before[d], least + b);
                        best = d > 0 ? Math.min(best, before[d - 1] + a) : best;
                        best = d < most ? Math.min(best, before[d + 1] + a) : best;
                        want += best - least;
                    }
                    due(lines + " way " + way + " at " + x + ", " + y + " by " + d, v.path(way, x, y, d), want);
                }
            }
        }
    }

    private static void placeAhead() {
        pathsBySentence("", 1);
        pathsBySentence("", 2);
        pathsBySentence("", 7);
        pathsBySentence(";window 2", 2);
        pathsBySentence(";penalty 0 0", 2);
        pathsBySentence(";penalty 0 60", 2);
        pathsBySentence(";penalty 60 60", 2);
        pathsBySentence(";penalty 1 1", 3);
    }

    /** Costs of row 1 are 1 8 8, 2 0 8, 3 1 1: by hand, by A 1 and B 9. */
    private static void pathByHand() {
        Counted v = Rows.tell(";most 2;penalty 1 9", "366/312/433", "412/123/443");
        int[][] costs = {{1, 8, 8}, {2, 0, 8}, {3, 1, 1}};
        // 2 + 0; 0 + 1; 8 + 7, for 8 less 1 is less than 9
        int[][] right = {{1, 8, 8}, {2, 1, 15}, {4, 1, 2}};
        // 2 + 1, 0 + 0, 8 + 0; 1 + 1, 8 + 0, 8 + 1
        int[][] left = {{1 + 1, 8 + 0, 8 + 1}, {2 + 1, 0 + 0, 8 + 0}, {3, 1, 1}};
        for (int x = 0; x < 3; x++) {
            for (int d = 0; d < 3; d++) {
                due("cost " + x + " by " + d, v.cost(x, 1, d), costs[x][d]);
                due("way 0 " + x + " by " + d, v.path(0, x, 1, d), right[x][d]);
                due("way 1 " + x + " by " + d, v.path(1, x, 1, d), left[x][d]);
            }
        }
    }

    // 17: sum

    private static void sumOfPaths() {
        for (int paths : new int[] {1, 2, 4, 8, 16, 32, 64, 128, 255, 254, 127, 129, 24}) {
            Counted v = Rows.tell(";most 2;paths " + paths, "159/2a7/3c0", "951/7a2/0c3");
            for (int i = 0; i < 9; i++) {
                for (int d = 0; d < 3; d++) {
                    int want = 0;
                    for (int way = 0; way < 8; way++) {
                        want += (paths >> way & 1) == 1 ? v.path(way, i % 3, i / 3, d) : 0;
                    }
                    due("PATHS " + paths + " at " + i + " by " + d, v.sum(i % 3, i / 3, d), want);
                }
            }
        }
    }

    private static void sumOfShifts() {
        for (int most = 1; most <= 7; most++) {
            Counted v = new Counted();
            v.tune(0, most);
            due("by MOST " + most, v.sum(7, 5, most) == NONE ? 1 : 0, 0);
            due("by MOST + 1", v.sum(7, 5, most + 1), NONE);
            due("by 0", v.sum(7, 5, 0), 0);
            for (int d : new int[] {-1, 8, FAR_OUT, FAR_BELOW}) {
                due("by " + d, v.sum(7, 5, d), NONE);
            }
        }
    }

    // 18: shift

    /** At 2, 0 sums are 4, 0, 0; at 1, 1 they are 3, 3, 8; at 2, 1 they are 7, 6, 4. */
    private static void leastOfLikeSums() {
        Counted v = Rows.tell(";most 2;slack 0" + Rows.PLAIN, "000/101/100", "001/110/111");
        int[][] sums = {{2, 0, 4, 0, 0}, {1, 1, 3, 3, 8}, {2, 1, 7, 6, 4}, {0, 1, 2, 8, 8}, {1, 2, 1, 0, 8}, {2, 2, 2, 1, 0}};
        for (int[] s : sums) {
            for (int d = 0; d < 3; d++) {
                due("sum at " + s[0] + ", " + s[1] + " by " + d, v.sum(s[0], s[1], d), s[2 + d]);
            }
        }
        due("LEFT", Rows.shifts(v, 0), "001/002/012");
        // RIGHT 0, 2: sums by 0, 1, 2 are 3, 0, 0 at 0, 1, 2; RIGHT 1, 1: 3 at 1, 6 at 2
        due("RIGHT", Rows.shifts(v, 1), "000/000/100");
        Counted n = new Counted();
        due("all 0", Rows.shifts(n, 0), Rows.values(n, 0));
        due("all 0", Rows.shifts(n, 1), Rows.values(n, 1));
    }

    /** By 7 RIGHT 0 is seen at LEFT 7, the last one; RIGHT 7 can be seen by 0 alone. */
    private static void shiftsUpToTheEdge() {
        Counted v = Rows.tell(";most 7;slack 1" + Rows.PLAIN,
            "00110011/10001001/01011100", "11111001/10110100/00110110");
        int[] along = {4, 4, 4, 4, 6, 4, 4, 2};
        for (int d = 0; d < 8; d++) {
            due("sum at " + d + " by " + d, v.sum(d, 1, d), along[d]);
        }
        due("by MOST, up to the last PLACE", v.shift(1, 0, 1), 7);
        due("LEFT", Rows.shifts(v, 0), "00011045/00120105/00110220");
        due("RIGHT", Rows.shifts(v, 1), "00510010/70001000/01122100");
        v.tune(0, 6);
        due("7 is no SHIFT now", v.shift(1, 0, 1), 0);
        for (int most = 1; most <= 7; most++) {
            Counted w = Rows.tell(";most " + most, "159/2a7/3c0", "951/7a2/0c3");
            for (int x = 0; x < 3; x++) {
                for (int y = 0; y < 3; y++) {
                    due("RIGHT " + x + " by no more than " + (2 - x), w.shift(1, x, y) <= 2 - x ? 1 : 0, 1);
                }
            }
        }
    }

    // 19: margin

    private static void marginNone() {
        Counted one = Rows.tell(";most 1", "159/2a7/3c0", "951/7a2/0c3");
        due("MOST 1", Rows.of(one, (x, y) -> one.margin(x, y)), "---/---/---");
        Counted two = Rows.tell(";most 2" + Rows.PLAIN, "110/010/010", "110/101/111");
        due("SHIFTS", Rows.shifts(two, 0), "000/011/010");
        // SHIFT 0: by 2 alone, less its own: 8 - 3, 8 - 3, 1 - 0; 8 - 1; 8 - 1, 1 - 1
        due("MOST 2", Rows.of(two, (x, y) -> two.margin(x, y)), "551/7--/7-0");
    }

    private static Counted plainSums(String left, String right, int x, int y, int... sums) {
        Counted v = Rows.tell(";most 3" + Rows.PLAIN, left, right);
        for (int d = 0; d < 4; d++) {
            due("sum at " + x + ", " + y + " by " + d, v.sum(x, y, d), sums[d]);
        }
        return v;
    }

    private static void marginFromTwoOn() {
        Counted v = Rows.tell(";most 3" + Rows.PLAIN, "010/010/000", "110/110/011");
        due("SHIFTS", Rows.shifts(v, 0), "000/000/012");
        int[][] sums = {{0, 8, 8, 8}, {3, 0, 8, 8}, {2, 3, 0, 8}};
        for (int x = 0; x < 3; x++) {
            for (int d = 0; d < 4; d++) {
                due("sum at " + x + " by " + d, v.sum(x, 2, d), sums[x][d]);
            }
        }
        due("SHIFT 0: by 2, 3", v.margin(0, 2), 8);
        due("SHIFT 1: by 3 alone", v.margin(1, 2), 8);
        due("SHIFT 2: by 0 alone", v.margin(2, 2), 2);
        Counted m = Rows.tell(";most 5" + Rows.PLAIN, "1110/0100/0001", "0101/1000/1110");
        int[] zeros = {5, 0, 6, 0, 8, 8};
        for (int d = 0; d < 6; d++) {
            due("sum at 3 by " + d, m.sum(3, 0, d), zeros[d]);
        }
        due("SHIFT 1: as little by 3", m.margin(3, 0), 0);
        Counted own = plainSums("000/111/110", "010/100/011", 2, 1, 5, 5, 4, 8);
        due("SHIFT 2: 5 less 4", own.margin(2, 1), 1);
        Counted one = plainSums("010/110/100", "100/010/110", 1, 2, 4, 2, 8, 8);
        due("SHIFT 1: 8 less 2", one.margin(1, 2), 6);
    }

    // 32: row

    private static void rowArguments() {
        for (int[] size : new int[][] {{3, 3}, {8, 6}, {16, 12}}) {
            Counted v = new Counted();
            v.size(size[0], size[1]);
            v.value(1, 1, 1, 1);
            int price = v.row(1, -1);
            due("what it costs is more than 0", price > 0 ? 1 : 0, 1);
            due("the last row", v.row(size[1] - 1, -1), 0);
            due("the last PLACE", v.row(size[1] - 1, size[0] - 1), 0);
            due("x NONE of no row", v.row(size[1], -1), NONE);
            due("x NONE of row -1", v.row(-1, -1), NONE);
            for (int n : new int[] {-2, FAR_OUT, FAR_BELOW}) {
                due("x " + n, v.row(0, n), NONE);
                due("y " + n, v.row(n, 0), NONE);
                due("y " + n + ", x NONE", v.row(n, -1), NONE);
            }
            due("x w", v.row(0, size[0]), NONE);
            due("y h", v.row(size[1], 0), NONE);
        }
    }

    /** Three ways cost 10: 0111, 0022 and 0122; told from the right end the first is the least. */
    private static void likeRows() {
        Counted v = Rows.tell(";most 2;penalty 2 3;paths 1", "1110/0001/1000", "0010/1100/1111");
        int[][] costs = {{5, 8, 8}, {1, 0, 8}, {2, 1, 0}, {3, 2, 1}};
        for (int x = 0; x < 4; x++) {
            for (int d = 0; d < 3; d++) {
                due("cost at " + x + " by " + d, v.cost(x, 2, d), costs[x][d]);
            }
        }
        due("what it costs", v.row(2, -1), 10);
        int[] want = {0, 1, 1, 1};
        for (int x = 0; x < 4; x++) {
            due("at " + x, v.row(2, x), want[x]);
        }
    }

    /** Costs are 5 8 8, 1 0 8, 2 1 0, 3 2 1 as above; the steps' prices tell which way is least. */
    private static void rowSteps() {
        int[][] penalties = {{0, 0, 6}, {0, 60, 6}, {1, 60, 8}, {60, 60, 11}, {2, 2, 9}, {1, 1, 8}};
        String[] want = {"0122", "0122", "0122", "0000", "0022", "0022"};
        for (int i = 0; i < penalties.length; i++) {
            String lines = ";most 2;paths 1;penalty " + penalties[i][0] + " " + penalties[i][1];
            Counted v = Rows.tell(lines, "1110/0001/1000", "0010/1100/1111");
            due(lines + " costs", v.row(2, -1), penalties[i][2]);
            StringBuilder got = new StringBuilder();
            for (int x = 0; x < 4; x++) {
                got.append(v.row(2, x));
            }
            due(lines, got.toString(), want[i]);
        }
    }

    private static void rowsByThemselves() {
        Counted v = Rows.tell(";most 2;penalty 0 0", "110/010/010", "110/101/111");
        // of each PLACE the least cost, and of like ones the least SHIFT: 3 3 0, 1 4 0, 1 5 1
        due("row 0", v.row(0, -1), 6);
        due("row 1", v.row(1, -1), 5);
        due("row 2", v.row(2, -1), 7);
        due("all", Rows.of(v, (x, y) -> v.row(y, x)), "000/011/010");
    }

    /** Row 2 costs 5 8, 7 2, 5 0: by 1 all along it is 10, though the first one lies beyond the edge. */
    private static void rowBeyondTheEdge() {
        Counted v = Rows.tell(";most 1;penalty 4 6;paths 2", "001/000/010", "000/000/101");
        int[][] costs = {{5, 8}, {7, 2}, {5, 0}};
        for (int x = 0; x < 3; x++) {
            due("by 0", v.cost(x, 2, 0), costs[x][0]);
            due("by 1", v.cost(x, 2, 1), costs[x][1]);
        }
        due("what it costs", v.row(2, -1), 10);
        due("all", Rows.of(v, (x, y) -> v.row(y, x)), "000/000/111");
    }

    /** A picture of 0 to 2 by a row of its own, so that many ways cost the same. */
    private static Counted mixed(int seed, int w, int most, int[] penalties) {
        Counted v = new Counted();
        v.size(w, 3);
        v.tune(0, most);
        v.tune(3, 60);
        v.tune(2, penalties[0]);
        v.tune(3, penalties[1]);
        long state = seed * 7919L + 1;
        for (int i = 0; i < 6 * w; i++) {
            state = state * 6364136223846793005L + 1442695040888963407L;
            v.value(i / (3 * w), i % w, i / w % 3, (int) ((state >>> 33) % 3));
        }
        return v;
    }

    /** The ways are gone through from the right end on, the least first: the first of the best counts. */
    private static void allWaysOfARow() {
        int[][] penalties = {{0, 0}, {0, 1}, {1, 1}, {1, 2}, {1, 3}, {2, 6}, {3, 4}, {0, 60}, {60, 60}};
        int[][] sizes = {{3, 7}, {4, 5}, {5, 3}, {6, 2}, {8, 1}};
        for (int seed = 0; seed < 90; seed++) {
            int w = sizes[seed % 5][0];
            int most = sizes[seed % 5][1];
            int[] steps = penalties[seed % 9];
            Counted v = mixed(seed, w, most, steps);
            int[] best = bestOfAllWays(v, w, most, steps);
            due("picture " + seed + ", what it costs", v.row(1, -1), best[w]);
            for (int x = 0; x < w; x++) {
                due("picture " + seed + ", at " + x, v.row(1, x), best[x]);
            }
        }
    }

    /** The SHIFTS, and behind them what they cost. */
    private static int[] bestOfAllWays(Counted v, int w, int most, int[] steps) {
        int[][] costs = new int[w][most + 1];
        int ways = 1;
        for (int x = 0; x < w; x++) {
            for (int d = 0; d <= most; d++) {
                costs[x][d] = v.cost(x, 1, d);
            }
            ways *= most + 1;
        }
        int[] best = null;
        for (int way = 0; way < ways; way++) {
            int[] one = new int[w + 1];
            for (int x = 0, rest = way; x < w; x++, rest /= most + 1) {
                one[x] = rest % (most + 1);
                int apart = x == 0 ? 0 : Math.abs(one[x] - one[x - 1]);
                one[w] += costs[x][one[x]] + (apart == 0 ? 0 : apart == 1 ? steps[0] : steps[1]);
            }
            best = best == null || one[w] < best[w] ? one : best;
        }
        return best;
    }

    // 33: energy

    private static void energyArguments() {
        Counted v = new Counted();
        for (int what = 0; what < 3; what++) {
            due("all 0, what " + what, v.energy(what), 0);
        }
        for (int what : new int[] {-1, 3, FAR_OUT, FAR_BELOW}) {
            due("what " + what, v.energy(what), NONE);
        }
    }

    /** SHIFTS and FILLED with their costs as rows; each step by sides is added by hand. */
    private static void energyByHand() {
        Counted v = Rows.tell(";most 4;penalty 1 9;paths 1;slack 0", "366/312/433", "412/123/443");
        due("SHIFTS", Rows.shifts(v, 0), "001/011/012");
        due("costs", Rows.of(v, (x, y) -> v.cost(x, y, v.shift(0, x, y))), "453/101/210");
        int steps = 0 + 1 + 1 + 0 + 1 + 1;
        int between = 0 + 1 + 0 + 0 + 0 + 1;
        due("SHIFTS", v.energy(1), 12 + 2 + 3 + steps + between);
        due("FILLED", Rows.filled(v, 0), "111/001/222");
        due("costs", Rows.of(v, (x, y) -> v.cost(x, y, v.filled(0, x, y))), "843/121/880");
        int inRows = 0 + 0 + 0 + 1 + 0 + 0;
        int overRows = 1 + 1 + 0 + 9 + 9 + 1;
        due("FILLED", v.energy(0), 15 + 4 + 16 + inRows + overRows);
        due("rows", v.energy(2), v.row(0, -1) + v.row(1, -1) + v.row(2, -1));
        due("rows by hand", v.energy(2), 12 + 3 + 5);
    }

    private static void energyOfRowsAlone() {
        // rows of unlike SHIFTS: nothing between rows
        Counted v = Rows.tell(";most 2;penalty 60 60", "110/010/010", "110/101/111");
        due("rows", v.energy(2), v.row(0, -1) + v.row(1, -1) + v.row(2, -1));
        due("by 0 each", v.energy(2), 3 + 3 + 0 + 1 + 5 + 3 + 1 + 7 + 1);
    }

    private static void codesAndCosts() {
        CHECK.sentence(12, "row by row, one bit each, the first the highest", MatchBoundsTest::bitsInOrder);
        CHECK.sentence(12, "BITS: 8 or 24; 1, if its VALUE is below", MatchBoundsTest::allBits);
        CHECK.sentence(12, "VALUES 0 to 15", MatchBoundsTest::endsOfValues);
        CHECK.sentence(12, "beyond the picture: the nearest PLACE, WINDOW 1", MatchBoundsTest::nearestPlaceWindow1);
        CHECK.sentence(12, "beyond the picture: the nearest PLACE, WINDOW 2", MatchBoundsTest::nearestPlaceWindow2);
        CHECK.sentence(12, "beyond the picture, 16 by 12", MatchBoundsTest::cornersOfTheLargest);
        CHECK.sentence(13, "of both views (it, too)", MatchBoundsTest::sameAtLeastAndMost);
        CHECK.sentence(14, "how many unlike CODES; NONE: others", MatchBoundsTest::codesAtLeastAndMost);
        CHECK.sentence(15, "BITS, if x - d is below 0", MatchBoundsTest::costBeyondTheEdge);
        CHECK.sentence(15, "SHIFTS 0 to MOST; NONE: others", MatchBoundsTest::costOfShifts);
        CHECK.sentence(15, "bits in which CODES are unlike, 0 to BITS", MatchBoundsTest::costsOfAllBits);
    }

    private static void waysAndShifts() {
        CHECK.sentence(16, "one of the eight ways; NONE: others", MatchBoundsTest::pathArguments);
        CHECK.sentence(16, "if the PLACE ahead of it is there", MatchBoundsTest::placeAhead);
        CHECK.sentence(16, "d - 1, d + 1 (if these are SHIFTS) and A", MatchBoundsTest::pathByHand);
        CHECK.sentence(17, "of each of the PATHS what it tells", MatchBoundsTest::sumOfPaths);
        CHECK.sentence(17, "SHIFTS 0 to MOST; NONE: others", MatchBoundsTest::sumOfShifts);
        CHECK.sentence(18, "of the least SUM, the least d", MatchBoundsTest::leastOfLikeSums);
        CHECK.sentence(18, "of RIGHT: x + d below w", MatchBoundsTest::shiftsUpToTheEdge);
        CHECK.sentence(19, "NONE, if there is none such", MatchBoundsTest::marginNone);
        CHECK.sentence(19, "2 or more from its SHIFT", MatchBoundsTest::marginFromTwoOn);
    }

    private static void rowsAndEnergy() {
        CHECK.sentence(32, "what it costs (x NONE); NONE: others", MatchBoundsTest::rowArguments);
        CHECK.sentence(32, "of like ones, from the right end on", MatchBoundsTest::likeRows);
        CHECK.sentence(32, "1 apart A, more apart B", MatchBoundsTest::rowSteps);
        CHECK.sentence(32, "of all ways to choose a SHIFT for each PLACE", MatchBoundsTest::allWaysOfARow);
        CHECK.sentence(32, "a row by itself, steps for nothing", MatchBoundsTest::rowsByThemselves);
        CHECK.sentence(32, "a SHIFT for each PLACE, the first too", MatchBoundsTest::rowBeyondTheEdge);
        CHECK.sentence(33, "what 0, 1, 2; NONE: others", MatchBoundsTest::energyArguments);
        CHECK.sentence(33, "neighbours by sides A, B", MatchBoundsTest::energyByHand);
        CHECK.sentence(33, "nothing between rows", MatchBoundsTest::energyOfRowsAlone);
    }

    public static void main(String[] args) {
        codesAndCosts();
        waysAndShifts();
        rowsAndEnergy();
        CHECK.end();
    }
}
