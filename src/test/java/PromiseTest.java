import java.util.ArrayList;
import java.util.Arrays;
import java.util.List;

/** Each promise by hand: ordinary inputs, the edges that the document names, wrong inputs. */
public final class PromiseTest {
    private static final int NONE = TwoViews.NONE;
    private static final int FAR_OUT = Integer.MAX_VALUE;
    private static final int FAR_BELOW = Integer.MIN_VALUE;
    private static final Check CHECK = new Check();

    private PromiseTest() {
    }

    private static void due(String call, long got, long want) {
        CHECK.due(call, got, want);
    }

    private static void due(String call, boolean got, boolean want) {
        CHECK.due(call, got, want);
    }

    /** LEFT 123 / 456 / 789, RIGHT all 0; its codes are told at promise 12. */
    private static Counted nine() {
        Counted v = new Counted();
        due("nine", Words.read(v, "size 3 3;left 0 123;left 1 456;left 2 789"), 3);
        return v;
    }

    /** One layer over all of both pictures, by a shift of 2. */
    private static Counted wall() {
        Counted v = new Counted();
        v.size(16, 12);
        due("wall", v.layer(-10, -10, 40, 40, 2, 5), 0);
        due("wall drawn", v.draw(), 192);
        return v;
    }

    /** A wall by 0 and a plate by 3 before it. */
    private static Counted plate() {
        Counted v = new Counted();
        v.size(16, 12);
        v.layer(-10, -10, 40, 40, 0, 5);
        v.layer(7, 3, 6, 6, 3, 9);
        due("plate drawn", v.draw(), 192);
        return v;
    }

    private static int[] picture(Counted v) {
        int w = v.count(0);
        int h = v.count(1);
        int[] all = new int[2 * w * h];
        int n = 0;
        for (int view = 0; view < 2; view++) {
            for (int y = 0; y < h; y++) {
                for (int x = 0; x < w; x++) {
                    all[n++] = v.at(view, x, y);
                }
            }
        }
        return all;
    }

    private static int texture(int seed, int i, int j) {
        long v = seed * 31L + i * 7919L + j * 104729L;
        v = v * 1103515245L + 12345L;
        return (int) ((v & 0xffffffffL) >> 16) & 15;
    }

    private interface Seek {
        long at(int view, int x, int y);
    }

    /** What every call that takes a place refuses, on 8 by 6. */
    private static final int[][] NO_PLACES = {
        {0, -1, 0}, {0, 8, 0}, {0, 0, -1}, {0, 0, 6}, {-1, 0, 0}, {2, 0, 0}, {1, 8, 5}, {1, 7, 6},
        {FAR_OUT, 0, 0}, {0, FAR_OUT, 0}, {0, 0, FAR_OUT}, {0, FAR_BELOW, 0}, {0, 0, FAR_BELOW}
    };

    private static void refusesPlaces(String name, boolean bothViews, boolean thrown, Seek seek) {
        for (int[] p : NO_PLACES) {
            if (!bothViews && p[0] != 0) {
                continue;
            }
            String call = name + Arrays.toString(p);
            if (thrown) {
                CHECK.noSuch(call, () -> seek.at(p[0], p[1], p[2]));
            } else {
                due(call, seek.at(p[0], p[1], p[2]), NONE);
            }
        }
    }

    private static void newObject() {
        Counted v = new Counted();
        int[] want = {8, 6, 3, 1, 2, 6, 255, 1, 1, 100, 0, 0, 0};
        for (int i = 0; i < want.length; i++) {
            due("new count " + i, v.count(i), want[i]);
        }
        due("new picture", Arrays.stream(picture(v)).sum(), 0);
        due("new picture's places", picture(v).length, 96);
        due("new undo", v.undo(), NONE);
        due("new back", v.back(0), false);
        due("new text", v.text(1), NONE);
    }

    private static void feed() {
        Counted v = new Counted();
        for (int i = 1; i <= 35; i++) {
            due("feed " + i, v.feed(0, 0, 0, 0, 0), 20 * i);
        }
        due("feed beyond", v.feed(0, 0, 0, 0, 0), NONE);
        due("feed stays", v.count(12), 700);
        due("text of none", v.text(700), Words.fault(0, 1));
        due("feed anew", v.feed(0x73697a65, 0x20332034, 0x20202020, 0x20202020, -1), 20);
        due("text", v.text(16), 0);
        due("w", v.count(0), 3);
        due("h", v.count(1), 4);
        v.feed(0x73697a65, 0x20332034, 0x20202020, 0x20202020, -1);
        due("a byte 255", v.text(20), Words.fault(16, 1));
        Words.put(v, "size 5 5;left 4 abcde;right 0 01234");
        due("two calls", v.count(12), 40);
        due("text over calls", v.text(35), 2);
        due("left", v.at(0, 4, 4), 14);
        due("right", v.at(1, 4, 0), 4);
    }

    private static void text() {
        Counted v = new Counted();
        v.tune(0, 7);
        v.tune(5, 3);
        v.tune(6, 9);
        v.tune(7, 77);
        v.layer(0, 0, 3, 3, 7, 1);
        v.value(0, 0, 0, 9);
        due("size alone", Words.read(v, "size 8 6"), 0);
        int[] want = {8, 6, 3, 1, 2, 6, 255, 1, 9, 77, 1, 6, 0};
        for (int i = 0; i < want.length; i++) {
            due("after text count " + i, v.count(i), want[i]);
        }
        due("value as at first", v.at(0, 0, 0), 0);
        due("blanks", Words.read(v, "\n size\n16 012 ;most 7;\nmost 1;slack 3\n;paths 001 \n"), 4);
        due("w", v.count(0), 16);
        due("h", v.count(1), 12);
        due("told last", v.count(2), 1);
        due("slack", v.count(7), 3);
        due("paths", v.count(6), 1);
        due("A as at first", v.count(4), 2);
        due("rows", Words.read(v, "size 3 3;left 2 fff;left 2 09a;right 0 0bf"), 3);
        due("left 0", v.at(0, 0, 2), 0);
        due("left 9", v.at(0, 1, 2), 9);
        due("left a", v.at(0, 2, 2), 10);
        due("right b", v.at(1, 1, 0), 11);
        due("right f", v.at(1, 2, 0), 15);
        due("edges", Words.read(v, "size 3 3;penalty 60 60;penalty 0 0;window 1;window 2;paths 255"), 5);
        due("A", v.count(4), 0);
        due("B", v.count(5), 0);
        due("WINDOW", v.count(3), 2);
        textRefused(v);
    }

    private static void textRefused(Counted v) {
        int acts = v.count(11);
        Words.put(v, "size 4 4");
        due("too many", v.text(21), NONE);
        due("below 0", v.text(-1), NONE);
        due("far below", v.text(FAR_BELOW), NONE);
        due("the tape stays", v.count(12), 20);
        due("none is an act", v.count(11), acts);
        due("a part", v.text(6), Words.fault(6, 1));
        due("empty then", v.count(12), 0);
        due("a fault is no act", v.count(11), acts);
        due("all else stays", v.count(0), 3);
        due("nothing", v.text(0), Words.fault(0, 1));
    }

    private static void faults() {
        Object[][] rows = {
            {"", 0, 1}, {"   ", 3, 1}, {"size", 4, 1}, {"size ", 5, 1}, {"size 4", 6, 1},
            {"size 4 3;", 9, 1}, {"size 4 3 ; \n", 12, 1}, {"siz 4 3", 0, 1}, {"sizes 4 3", 0, 1},
            {"size4 3", 0, 1}, {";size 4 3", 0, 1}, {"Size 4 3", 0, 1}, {" size 4-3", 7, 1},
            {"size 4 3\t", 8, 1}, {"size 4 3,", 8, 1}, {"size 4 3a", 7, 1}, {"size 4a 3", 5, 1},
            {"size 0004 3", 5, 1}, {"size 1000 3", 5, 1}, {"size 2 3", 5, 2}, {"size 17 3", 5, 2},
            {"size 999 3", 5, 2}, {"size 3 2", 7, 2}, {"size 16 13", 8, 2}, {"size 2 2", 5, 2},
            {"size ; 3", 5, 1}, {"size 4 ;", 7, 1}, {"size 4 3 3", 9, 1}, {"size 4 3;;", 9, 1},
            {"size 4 3;size 4 3", 9, 1}, {"size 4 3;mos 2", 9, 1}, {"size 4 3;most", 13, 1},
            {"size 4 3;most 0", 14, 2}, {"size 4 3;most 8", 14, 2}, {"size 4 3;most 9A", 14, 2},
            {"size 4 3;most 2A", 15, 1}, {"size 4 3;most 2 2", 16, 1}, {"size 4 3;most x", 14, 1},
            {"size 4 3;most2", 9, 1}, {"size 4 3;window 0", 16, 2}, {"size 4 3;window 3", 16, 2},
            {"size 4 3;paths 0", 15, 2}, {"size 4 3;paths 256", 15, 2}, {"size 4 3;slack 4", 15, 2},
            {"size 4 3;penalty 61 61", 17, 2}, {"size 4 3;penalty 1 61", 19, 2},
            {"size 4 3;penalty 5 4", 19, 2}, {"size 4 3;penalty 5", 18, 1},
            {"size 4 3;penalty 5;", 18, 1}, {"size 4 3;left 3 0000", 14, 2},
            {"size 4 3;right 3 0000", 15, 2}, {"size 4 3;left 0", 15, 1}, {"size 4 3;left 0;", 15, 1},
            {"size 4 3;left 0 000", 16, 3}, {"size 4 3;left 0 00000", 16, 3},
            {"size 4 3;left 0 000g", 19, 3}, {"size 4 3;left 0 z00g", 16, 3},
            {"size 4 3;left 0 0z0g0", 16, 3}, {"size 4 3;left 0 00 00", 16, 3},
            {"size 4 3;left 0 00A0", 16, 3}, {"size 4 3;left 0 A000", 16, 1},
            {"size 4 3;left 0 0000A", 20, 1}, {"size 4 3;left 0 0000;left 3 0000;most 9", 26, 2},
            {"size 4 3;left 0000", 14, 1}, {"size 4 3;left ; 0000", 14, 1},
            {"size 4 3;right 2 size;most 9", 17, 3}, {"size 4 3;left 0 0000 right", 21, 1},
        };
        for (Object[] r : rows) {
            Counted v = new Counted();
            int want = Words.fault((Integer) r[1], (Integer) r[2]);
            due("text \"" + r[0] + "\"", Words.read(v, (String) r[0]), want);
            due("stays 8", v.count(0), 8);
            due("no act", v.count(11), 0);
            due("tape", v.count(12), 0);
        }
    }

    private static void size() {
        Counted v = new Counted();
        v.tune(0, 5);
        v.value(1, 2, 2, 7);
        int[][] bad = {{2, 3}, {3, 2}, {17, 3}, {3, 13}, {-8, 6}, {8, FAR_OUT}, {FAR_BELOW, 6}};
        for (int[] b : bad) {
            due("size " + Arrays.toString(b), v.size(b[0], b[1]), false);
        }
        due("refused", v.count(11), 2);
        due("value stays", v.at(1, 2, 2), 7);
        due("size like", v.size(8, 6), true);
        due("all 0", v.at(1, 2, 2), 0);
        due("size least", v.size(3, 3), true);
        due("size most", v.size(16, 12), true);
        due("w", v.count(0), 16);
        due("h", v.count(1), 12);
        due("most stays", v.count(2), 5);
        due("the corner", v.at(1, 15, 11), 0);
        due("acts", v.count(11), 5);
    }

    private static void value() {
        Counted v = new Counted();
        due("value", v.value(0, 7, 5, 15), 0);
        due("value again", v.value(0, 7, 5, 15), 15);
        due("acts", v.count(11), 2);
        due("value right", v.value(1, 7, 5, 3), 0);
        due("value 0", v.value(0, 7, 5, 0), 15);
        refusesPlaces("value", true, false, (view, x, y) -> v.value(view, x, y, 1));
        due("v below", v.value(0, 0, 0, -1), NONE);
        due("v above", v.value(0, 0, 0, 16), NONE);
        due("v far", v.value(0, 0, 0, FAR_OUT), NONE);
        due("refused is no act", v.count(11), 4);
        due("right", v.at(1, 7, 5), 3);
    }

    private static void tune() {
        int[] first = {3, 1, 2, 6, 255, 1, 1, 100};
        int[] low = {1, 1, 0, 2, 1, 0, 1, 1};
        int[] high = {7, 2, 6, 60, 255, 3, 50, 999};
        for (int i = 0; i < 8; i++) {
            Counted v = new Counted();
            due("tune below " + i, v.tune(i, low[i] - 1), NONE);
            due("tune above " + i, v.tune(i, high[i] + 1), NONE);
            due("tune far " + i, v.tune(i, FAR_OUT), NONE);
            due("tune far below " + i, v.tune(i, FAR_BELOW), NONE);
            due("refused " + i, v.count(11), 0);
            due("tune lowest " + i, v.tune(i, low[i]), first[i]);
            due("tuned " + i, v.count(2 + i), low[i]);
            due("tune highest " + i, v.tune(i, high[i]), low[i]);
            due("tuned high " + i, v.count(2 + i), high[i]);
            due("tune like " + i, v.tune(i, high[i]), high[i]);
            due("acts " + i, v.count(11), 3);
        }
        Counted v = new Counted();
        due("what below", v.tune(-1, 1), NONE);
        due("what above", v.tune(8, 1), NONE);
        due("what far", v.tune(FAR_BELOW, 1), NONE);
        v.tune(3, 60);
        due("A up to B", v.tune(2, 60), 2);
        due("B not below A", v.tune(3, 59), NONE);
        due("A back", v.tune(2, 0), 60);
        due("B 0", v.tune(3, 0), 60);
        due("A not above B", v.tune(2, 1), NONE);
    }

    private static void layer() {
        int[][] bad = {
            {-21, 0, 1, 1, 0}, {21, 0, 1, 1, 0}, {0, -21, 1, 1, 0}, {0, 21, 1, 1, 0},
            {0, 0, 0, 1, 0}, {0, 0, 41, 1, 0}, {0, 0, 1, 0, 0}, {0, 0, 1, 41, 0},
            {0, 0, 1, 1, -1}, {0, 0, 1, 1, 4}, {FAR_OUT, 0, 1, 1, 0}, {0, FAR_BELOW, 1, 1, 0}
        };
        Counted v = new Counted();
        for (int[] b : bad) {
            due("layer " + Arrays.toString(b), v.layer(b[0], b[1], b[2], b[3], b[4], 1), NONE);
        }
        due("none", v.count(10), 0);
        due("layer 0", v.layer(-20, -20, 40, 40, 0, FAR_BELOW), 0);
        due("layer 1", v.layer(20, 20, 1, 1, 3, FAR_OUT), 1);
        for (int i = 2; i < 6; i++) {
            due("layer " + i, v.layer(0, 0, 1, 1, 0, 0), i);
        }
        due("layer 6", v.layer(0, 0, 1, 1, 0, 0), NONE);
        due("six", v.count(10), 6);
        due("no acts", v.count(11), 0);
        due("picture stays", v.at(0, 0, 0), 0);
        due("a layer's shift may come to be above MOST", v.tune(0, 1), 3);
        due("six still", v.count(10), 6);
        due("clear", v.clear(), 6);
        due("clear again", v.clear(), 0);
        due("none then", v.count(10), 0);
        due("MOST now", v.layer(0, 0, 1, 1, 2, 0), NONE);
        due("the first again", v.layer(0, 0, 1, 1, 1, 0), 0);
        due("clear one", v.clear(), 1);
        due("clear is no act", v.count(11), 1);
    }

    private static void draw() {
        Counted v = new Counted();
        v.layer(1, 1, 3, 2, 1, 1);
        v.layer(2, 2, 20, 20, 3, -7);
        // 3 * 2 and 6 * 4, of which 2 are in both
        due("draw", v.draw(), 28);
        for (int y = 0; y < 6; y++) {
            for (int x = 0; x < 8; x++) {
                int l = x >= 2 && y >= 2 ? texture(-7, x - 2, y - 2)
                    : x >= 1 && x < 4 && y >= 1 && y < 3 ? texture(1, x - 1, y - 1) : 0;
                int r = y >= 2 ? texture(-7, x + 1, y - 2)
                    : x < 3 && y >= 1 ? texture(1, x, y - 1) : 0;
                due("left " + x + " " + y, v.at(0, x, y), l);
                due("right " + x + " " + y, v.at(1, x, y), r);
            }
        }
        // 31 * 1103515245 + 12345 is 4144213868 in 32 bits, its upper half 63235
        due("by hand", v.at(0, 1, 1), 3);
        v.clear();
        due("drawn of none", v.draw(), 0);
        due("all 0", Arrays.stream(picture(v)).sum(), 0);
        due("acts", v.count(11), 2);
        v.layer(20, 20, 40, 40, 0, 1);
        due("beyond", v.draw(), 0);
        v.layer(-20, -20, 21, 21, 0, 1);
        due("a corner", v.draw(), 1);
        due("its value", v.at(0, 0, 0), texture(1, 20, 20));
    }

    private static void truth() {
        Counted v = new Counted();
        v.layer(0, 1, 8, 4, 1, 1);
        v.layer(4, 2, 2, 2, 3, 2);
        due("without", v.truth(0, 0, 0), NONE);
        due("without, not covered", v.truth(0, 0, 1), 0);
        due("wall", v.truth(3, 1, 0), 1);
        due("wall seen", v.truth(3, 1, 1), 0);
        due("beyond the left edge", v.truth(0, 1, 1), 1);
        due("plate", v.truth(4, 2, 0), 3);
        due("plate seen", v.truth(4, 2, 1), 0);
        // in RIGHT the plate lies at 1, 2: the wall's 2, 3 are behind it
        due("behind 1", v.truth(2, 2, 1), 1);
        due("behind 2", v.truth(3, 3, 1), 1);
        due("beside", v.truth(1, 2, 1), 0);
        due("truth behind", v.truth(2, 2, 0), 1);
        refusesPlaces("truth", false, false, (view, x, y) -> v.truth(x, y, 0));
        due("what 2", v.truth(0, 1, 2), NONE);
        due("what -1", v.truth(0, 1, -1), NONE);
        v.clear();
        due("by layers now", v.truth(4, 2, 0), NONE);
        v.layer(0, 0, 8, 6, 0, 1);
        v.layer(2, 2, 1, 1, 0, 1);
        due("the last one", v.truth(2, 2, 1), 0);
    }

    private static void at() {
        Counted v = new Counted();
        v.value(1, 7, 5, 4);
        due("at", v.at(1, 7, 5), 4);
        due("at the other view", v.at(0, 7, 5), 0);
        refusesPlaces("at", true, true, v::at);
    }

    private static void codes() {
        Counted v = nine();
        int[] want = {0, 144, 144, 224, 240, 240, 224, 244, 244};
        int[] same = {10, 2, 2, 2, 2, 2, 2, 2, 2};
        for (int i = 0; i < 9; i++) {
            due("code " + i, v.code(0, i % 3, i / 3), want[i]);
            due("same " + i, v.same(0, i % 3, i / 3), same[i]);
            due("right " + i, v.code(1, i % 3, i / 3), 0);
        }
        due("same right", v.same(1, 2, 2), 10);
        due("codes left", v.codes(0), 5);
        due("codes right", v.codes(1), 1);
        v.tune(1, 2);
        due("window 2", v.code(0, 1, 1), 0xfff000);
        due("window 2, corner", v.code(0, 0, 0), 0);
        // rows 12333, 45666, 78-99 and twice 78999
        due("window 2, last", v.code(0, 2, 2), 0b11111_11111_1100_11000_11000);
        due("codes -1", v.codes(-1), NONE);
        due("codes 2", v.codes(2), NONE);
        Counted w = new Counted();
        refusesPlaces("code", true, true, w::code);
        refusesPlaces("same", true, true, w::same);
        due("same of all", w.same(0, 3, 3), 96);
    }

    private static void cost() {
        Counted v = nine();
        int[] ones = {0, 2, 2, 3, 4, 4, 3, 5, 5};
        for (int i = 0; i < 9; i++) {
            for (int d = 0; d <= 3; d++) {
                due("cost " + i + " " + d, v.cost(i % 3, i / 3, d), i % 3 >= d ? ones[i] : 8);
            }
        }
        v.tune(1, 2);
        due("24 bits", v.cost(0, 0, 1), 24);
        due("window 2", v.cost(1, 1, 1), 12);
        v.tune(0, 7);
        due("MOST", v.cost(2, 2, 7), 24);
        due("shift 8", v.cost(2, 2, 8), NONE);
        due("shift -1", v.cost(2, 2, -1), NONE);
        due("shift far", v.cost(2, 2, FAR_OUT), NONE);
        Counted w = new Counted();
        refusesPlaces("cost", false, false, (view, x, y) -> w.cost(x, y, 0));
    }

    private static void path() {
        Counted v = nine();
        v.tune(0, 2);
        // row 1 costs 3 8 8, 4 4 8, 4 4 4
        int[][] right = {{3, 8, 8}, {4, 6, 13}, {4, 6, 8}};
        // from the right end: 4 4 4, then nothing is dearer, then one step is
        int[][] left = {{3, 8, 10}, {4, 4, 8}, {4, 4, 4}};
        for (int x = 0; x < 3; x++) {
            for (int d = 0; d < 3; d++) {
                due("way 0 " + x + " " + d, v.path(0, x, 1, d), right[x][d]);
                due("way 1 " + x + " " + d, v.path(1, x, 1, d), left[x][d]);
            }
        }
        // column 1 by 0 costs 2, 4, 5; by 1 the same; by 2 always 8
        due("way 2", v.path(2, 1, 1, 2), 8 + 2);
        due("way 3", v.path(3, 1, 1, 2), 8 + 2);
        due("way 4 begins", v.path(4, 0, 1, 1), 8);
        due("way 4", v.path(4, 1, 1, 1), 4 + 2);
        due("way 5", v.path(5, 1, 1, 1), 4);
        due("way 6", v.path(6, 1, 1, 1), 4 + 2);
        due("way 7", v.path(7, 1, 1, 2), 8 + 0);
        v.tune(3, 4);
        due("B", v.path(0, 1, 1, 2), 12);
        v.tune(2, 0);
        due("A", v.path(0, 1, 1, 1), 4);
        v.tune(4, 1);
        due("of PATHS or not", v.path(1, 0, 1, 1), 8);
        due("way -1", v.path(-1, 0, 0, 0), NONE);
        due("way 8", v.path(8, 0, 0, 0), NONE);
        due("shift 3", v.path(0, 0, 0, 3), NONE);
        due("shift -1", v.path(0, 0, 0, -1), NONE);
        Counted w = new Counted();
        refusesPlaces("path", false, false, (view, x, y) -> w.path(0, x, y, 0));
    }

    private static void sum() {
        Counted v = nine();
        v.tune(0, 2);
        for (int paths = 1; paths < 256; paths += 17) {
            v.tune(4, paths);
            for (int d = 0; d < 3; d++) {
                int want = 0;
                for (int way = 0; way < 8; way++) {
                    want += (paths >> way & 1) * v.path(way, 1, 1, d);
                }
                due("sum " + paths + " " + d, v.sum(1, 1, d), want);
            }
        }
        v.tune(4, 3);
        due("two ways", v.sum(1, 1, 2), 13 + 8);
        due("shift 3", v.sum(1, 1, 3), NONE);
        due("shift -1", v.sum(1, 1, -1), NONE);
        Counted w = new Counted();
        refusesPlaces("sum", false, false, (view, x, y) -> w.sum(x, y, 0));
    }

    private static void shift() {
        Counted v = nine();
        v.tune(0, 2);
        v.tune(4, 1);
        // row 1 sums up to 3 8 8, 4 6 13, 4 6 8
        due("left 0", v.shift(0, 0, 1), 0);
        due("right 0: 3, 6, 8", v.shift(1, 0, 1), 0);
        v.tune(4, 2);
        // 3 8 10, 4 4 8, 4 4 4: the least shift of like ones
        due("left 2", v.shift(0, 2, 1), 0);
        due("right 1: 4, 4", v.shift(1, 1, 1), 0);
        due("right 0: 3, 4, 4", v.shift(1, 0, 1), 0);
        Counted w = wall();
        due("wall left", w.shift(0, 8, 6), 2);
        due("wall right", w.shift(1, 8, 6), 2);
        due("beyond the edge x + d is not there", w.shift(1, 15, 6), 0);
        Counted p = plate();
        due("plate left", p.shift(0, 9, 6), 3);
        due("plate right", p.shift(1, 6, 6), 3);
        due("wall beside", p.shift(0, 14, 1), 0);
        Counted n = new Counted();
        refusesPlaces("shift", true, true, n::shift);
    }

    private static void margin() {
        Counted v = nine();
        v.tune(4, 1);
        v.tune(0, 2);
        due("margin", v.margin(1, 1), 9);
        due("margin of the last", v.margin(2, 1), 4);
        v.tune(0, 1);
        due("none such", v.margin(1, 1), NONE);
        Counted w = new Counted();
        // by 2 and 3 over eight ways what lies beyond the edge costs
        due("zero picture", w.margin(7, 3), Math.min(w.sum(7, 3, 2), w.sum(7, 3, 3)));
        refusesPlaces("margin", false, true, (view, x, y) -> w.margin(x, y));
        Counted m = wall();
        m.tune(0, 3);
        due("SHIFT 2 of 3", m.margin(8, 6), m.sum(8, 6, 0) - m.sum(8, 6, 2));
    }

    private static void kinds() {
        Counted v = wall();
        due("sure left", v.kind(0, 8, 6), 0);
        due("sure right", v.kind(1, 8, 6), 0);
        Counted p = plate();
        int[] found = new int[3];
        for (int x = 0; x < 16; x++) {
            for (int y = 0; y < 12; y++) {
                found[p.kind(0, x, y)]++;
            }
        }
        for (int k = 0; k < 3; k++) {
            due("kinds " + k, p.kinds(0, k), found[k]);
        }
        due("the wall behind the plate", p.kind(0, 5, 6), 2);
        due("kinds -1", p.kinds(0, -1), NONE);
        due("kinds 3", p.kinds(1, 3), NONE);
        due("kinds of view 2", p.kinds(2, 0), NONE);
        due("kinds of view -1", p.kinds(-1, 0), NONE);
        Counted n = nine();
        due("all sure", n.kinds(1, 0), 9);
        n.tune(6, 9);
        due("nine are not fewer than nine", n.kinds(1, 0), 9);
        n.tune(6, 10);
        due("gone", n.kinds(1, 0), 0);
        due("unlike then", n.kinds(1, 1), 9);
        due("kind gone", n.kind(0, 1, 1), 1);
        Counted w = new Counted();
        refusesPlaces("kind", true, false, w::kind);
    }

    private static void pieces() {
        Counted n = nine();
        due("piece", n.piece(0, 2, 2), 9);
        due("pieces", n.pieces(0, 0), 1);
        due("greatest", n.pieces(0, 1), 9);
        int[] want = {9, 0, 0, 0, 0, 2, 2, 0};
        for (int i = 0; i < 8; i++) {
            due("pieceAt " + i, n.pieceAt(1, 0, i), want[i]);
        }
        due("pieceAt 8", n.pieceAt(1, 0, 8), NONE);
        due("pieceAt -1", n.pieceAt(1, 0, -1), NONE);
        due("second", n.pieceAt(1, 1, 0), NONE);
        due("i -1", n.pieceAt(1, -1, 0), NONE);
        due("i far", n.pieceAt(1, FAR_OUT, 0), NONE);
        due("view 2", n.pieceAt(2, 0, 0), NONE);
        n.tune(6, 10);
        due("gone or not", n.piece(0, 2, 2), 9);
        due("none stay", n.pieces(0, 0), 0);
        due("greatest of none", n.pieces(0, 1), 0);
        due("none such", n.pieceAt(0, 0, 0), NONE);
        due("pieces 2", n.pieces(0, 2), NONE);
        due("pieces -1", n.pieces(0, -1), NONE);
        due("pieces of view 2", n.pieces(2, 0), NONE);
        Counted w = new Counted();
        refusesPlaces("piece", true, false, w::piece);
        piecesOfPlate();
    }

    private static void piecesOfPlate() {
        for (int view = 0; view < 2; view++) {
            Counted p = plate();
            int together = 0;
            int shifts = 0;
            for (int i = 0; i < p.pieces(view, 0); i++) {
                int x = p.pieceAt(view, i, 1);
                int y = p.pieceAt(view, i, 2);
                int size = p.pieceAt(view, i, 0);
                due("its first place's piece", p.piece(view, x, y), size);
                due("the first is the uppermost", p.pieceAt(view, i, 4), y);
                together += size;
                shifts += p.pieceAt(view, i, 7);
                if (i > 0) {
                    int before = p.pieceAt(view, i - 1, 0);
                    boolean later = p.pieceAt(view, i - 1, 2) * 16 + p.pieceAt(view, i - 1, 1) < y * 16 + x;
                    due("order", before > size || before == size && later, true);
                }
            }
            due("all sure ones", together, p.kinds(view, 0));
            due("their shifts", shifts, shiftsOfSure(plate(), view));
        }
        Counted p = plate();
        due("a hidden one is of no piece", p.piece(0, 5, 6), 0);
        due("the plate", p.pieceAt(0, 1, 0), p.piece(0, 9, 6));
    }

    private static int shiftsOfSure(Counted v, int view) {
        int together = 0;
        for (int y = 0; y < 12; y++) {
            for (int x = 0; x < 16; x++) {
                together += v.kind(view, x, y) == 0 ? v.shift(view, x, y) : 0;
            }
        }
        return together;
    }

    private static boolean isSomeFineBelow() {
        Counted v = wall();
        v.tune(0, 4);
        for (int x = 4; x < 12; x++) {
            for (int y = 0; y < 12; y++) {
                int l = v.sum(x, y, 1);
                int c = v.sum(x, y, 2);
                int r = v.sum(x, y, 3);
                if (v.shift(0, x, y) == 2 && l < r && 8 * (r - l) % (l + r - 2 * c) != 0) {
                    return true;
                }
            }
        }
        return false;
    }

    private static void fine() {
        Counted v = wall();
        v.tune(0, 4);
        int l = v.sum(8, 6, 1);
        int c = v.sum(8, 6, 2);
        int r = v.sum(8, 6, 3);
        due("fine", v.fine(8, 6), 32 + Math.floorDiv(8 * (l - r), l + r - 2 * c));
        v.tune(0, 2);
        due("one more is not there", v.fine(8, 6), 32);
        Counted n = new Counted();
        due("one less is not there", n.fine(4, 4), 0);
        refusesPlaces("fine", false, true, (view, x, y) -> n.fine(x, y));
        due("some are below, by a part", isSomeFineBelow(), true);
        // one place of RIGHT sees a lesser one: by 0, 1, 2 the sums at 2, 0 are 1, 0, 0
        Counted b = new Counted();
        Words.read(b, "size 5 3;paths 4;right 0 55555;right 1 55505;right 2 55555");
        due("by 0", b.sum(2, 0, 0), 1);
        due("by 1", b.sum(2, 0, 1), 0);
        due("by 2", b.sum(2, 0, 2), 0);
        due("the least bend", b.fine(2, 0), 16 + 8);
    }

    private static void ground() {
        Counted n = nine();
        due("p", n.ground(0), 0);
        due("q", n.ground(1), 0);
        due("votes", n.ground(2), 9);
        due("what 3", n.ground(3), NONE);
        due("what -1", n.ground(-1), NONE);
        due("p 3", n.votes(3, 0), 9);
        due("p 4", n.votes(4, 0), 0);
        // (3 + y + 4) / 8 is 0 for y 0 alone
        due("q 1", n.votes(3, 1), 3);
        due("q 8", n.votes(0, 8), 3);
        due("p 24", n.votes(24, 8), 0);
        due("p 25", n.votes(25, 0), NONE);
        due("p -1", n.votes(-1, 0), NONE);
        due("q 9", n.votes(0, 9), NONE);
        due("q -1", n.votes(0, -1), NONE);
        due("p far", n.votes(FAR_OUT, 0), NONE);
        n.tune(6, 10);
        due("no place is sure", n.ground(0), NONE);
        due("no place is sure", n.ground(2), NONE);
        due("no votes", n.votes(0, 0), 0);
        Counted w = wall();
        due("wall p", w.ground(0), 12);
        due("wall q", w.ground(1), 0);
        due("wall votes", w.ground(2), w.votes(19, 0));
        due("beyond", w.votes(20, 0) < w.votes(19, 0), true);
    }

    private static void between() {
        Counted v = wall();
        due("holes 0", v.holes(0), 0);
        due("holes 4", v.holes(4), 0);
        due("holes -1", v.holes(-1), NONE);
        due("holes 5", v.holes(5), NONE);
        for (int t = 0; t <= 4; t++) {
            int gone = (t * 2 + 2) / 4;
            due("between " + t, v.between(t, 8 - gone, 6), v.at(0, 8, 6));
        }
        for (int x = 0; x < 16; x++) {
            due("t 0 is LEFT " + x, v.between(0, x, 4), v.at(0, x, 4));
        }
        due("t -1", v.between(-1, 0, 0), NONE);
        due("t 5", v.between(5, 0, 0), NONE);
        Counted n = new Counted();
        refusesPlaces("between", false, false, (view, x, y) -> n.between(0, x, y));
        for (int t = 0; t <= 4; t++) {
            Counted p = plate();
            int found = 0;
            for (int i = 0; i < 192; i++) {
                found += p.between(t, i % 16, i / 16) == -2 ? 1 : 0;
            }
            due("holes " + t, p.holes(t), found);
        }
        Counted p = plate();
        due("the plate before the wall", p.between(4, 6, 6), p.at(0, 9, 6));
    }

    private static void filledAndDepth() {
        Counted p = plate();
        due("sure", p.filled(0, 9, 6), 3);
        due("hidden: the lesser one", p.filled(0, 5, 6), 0);
        due("depth", p.depth(9, 6), 33);
        due("far", p.depth(5, 6), -2);
        p.tune(7, 2);
        due("depth downwards", p.depth(9, 6), 0);
        p.tune(7, 999);
        due("depth", p.depth(9, 6), 333);
        p.tune(6, 50);
        due("the plate is gone", p.kind(0, 9, 6), 1);
        due("the middle of the wall around", p.filled(0, 9, 6), 0);
        due("far then", p.depth(9, 6), -2);
        Counted n = nine();
        n.tune(6, 10);
        due("without any", n.filled(0, 1, 1), 0);
        Counted w = new Counted();
        refusesPlaces("filled", true, true, w::filled);
        refusesPlaces("depth", false, true, (view, x, y) -> w.depth(x, y));
    }

    /** All ways to choose, one by one: cost first, then the shifts from the right end on. */
    private static List<Integer> bestWay(int[][] costs, int a, int b, List<Integer> behind) {
        int last = costs.length - 1;
        if (behind.size() > last) {
            int price = 0;
            for (int i = 0; i < behind.size(); i++) {
                price += costs[last - i][behind.get(i)];
                int apart = i == 0 ? 0 : Math.abs(behind.get(i) - behind.get(i - 1));
                price += apart == 0 ? 0 : apart == 1 ? a : b;
            }
            List<Integer> all = new ArrayList<>(behind);
            all.add(0, price);
            return all;
        }
        List<Integer> best = null;
        for (int d = 0; d < costs[0].length; d++) {
            List<Integer> more = new ArrayList<>(behind);
            more.add(d);
            List<Integer> got = bestWay(costs, a, b, more);
            // earlier ones are less from the right end on, so that like ones do not count
            best = best == null || got.get(0) < best.get(0) ? got : best;
        }
        return best;
    }

    private static void row() {
        for (int seed = 0; seed < 40; seed++) {
            Counted v = new Counted();
            v.size(5, 3);
            v.layer(-3, 0, 20, 3, seed % 4, seed);
            v.layer(2, 1, 3, 2, 1 + seed % 3, seed * 7);
            v.draw();
            v.tune(2, seed % 3);
            v.tune(3, 2 + seed % 5);
            int together = 0;
            for (int y = 0; y < 3; y++) {
                int[][] costs = new int[5][4];
                for (int i = 0; i < 20; i++) {
                    costs[i / 4][i % 4] = v.cost(i / 4, y, i % 4);
                }
                List<Integer> best = bestWay(costs, v.count(4), v.count(5), List.of());
                due("row costs, seed " + seed, v.row(y, -1), best.get(0));
                for (int x = 0; x < 5; x++) {
                    due("row " + y + " " + x + ", seed " + seed, v.row(y, x), best.get(5 - x));
                }
                together += best.get(0);
            }
            due("rows together", v.energy(2), together);
        }
        Counted v = new Counted();
        due("y 6", v.row(6, 0), NONE);
        due("y -1", v.row(-1, 0), NONE);
        due("x 8", v.row(0, 8), NONE);
        due("x -2", v.row(0, -2), NONE);
        due("y far", v.row(FAR_BELOW, -1), NONE);
        due("x far", v.row(0, FAR_OUT), NONE);
        due("x 7", v.row(5, 7), 0);
    }

    private static int priceOf(int[][] map) {
        int price = 0;
        for (int y = 0; y < 12; y++) {
            for (int x = 0; x < 16; x++) {
                int beside = x < 15 ? Math.abs(map[y][x] - map[y][x + 1]) : 0;
                int below = y < 11 ? Math.abs(map[y][x] - map[y + 1][x]) : 0;
                price += (beside == 0 ? 0 : beside == 1 ? 2 : 6) + (below == 0 ? 0 : below == 1 ? 2 : 6);
            }
        }
        return price;
    }

    private static void energy() {
        for (int what = 0; what < 2; what++) {
            Counted p = plate();
            int[][] map = new int[12][16];
            int costs = 0;
            for (int y = 0; y < 12; y++) {
                for (int x = 0; x < 16; x++) {
                    map[y][x] = what == 0 ? p.filled(0, x, y) : p.shift(0, x, y);
                    costs += p.cost(x, y, map[y][x]);
                }
            }
            due("energy " + what, p.energy(what), costs + priceOf(map));
        }
        Counted p = plate();
        due("energy 3", p.energy(3), NONE);
        due("energy -1", p.energy(-1), NONE);
        due("of zeros", new Counted().energy(0), 0);
        // 0, 2, 2, 3, 4, 4, 3, 5, 5 by 0 each
        Counted n = nine();
        due("nine filled", n.energy(0), 28);
        due("nine shifts", n.energy(1), 28);
        due("nine rows", n.energy(2), 28);
    }

    private static void wrong() {
        Counted v = new Counted();
        v.layer(0, 0, 5, 6, 0, 1);
        v.layer(6, 2, 2, 2, 3, 1);
        // nothing is drawn: all is filled by 0, and the plate by 3 is wrong; none of it is covered
        due("0, all", v.wrong(0, 0), 4);
        due("2, all", v.wrong(2, 0), 4);
        due("3, all", v.wrong(3, 0), 0);
        due("7, all", v.wrong(7, 0), 0);
        due("covered", v.wrong(0, 1), 0);
        due("others", v.wrong(0, 2), 4);
        v.layer(0, 0, 2, 1, 2, 1);
        due("covered beyond the edge", v.wrong(1, 1), 2);
        due("all then", v.wrong(1, 0), 6);
        due("by -1", v.wrong(-1, 0), NONE);
        due("by 8", v.wrong(8, 0), NONE);
        due("what 3", v.wrong(0, 3), NONE);
        due("what -1", v.wrong(0, -1), NONE);
        v.clear();
        due("without layers", v.wrong(0, 0), 0);
        Counted p = plate();
        due("all are some", p.wrong(0, 0), p.wrong(0, 1) + p.wrong(0, 2));
        int want = 0;
        for (int i = 0; i < 192; i++) {
            int x = i % 16;
            int y = i / 16;
            want += Math.abs(p.filled(0, x, y) - p.truth(x, y, 0)) > 0 && p.truth(x, y, 1) == 1 ? 1 : 0;
        }
        due("covered ones", p.wrong(0, 1), want);
    }

    private static void undo() {
        Counted v = new Counted();
        v.layer(0, 0, 8, 6, 1, 3);
        v.tune(7, 55);
        v.draw();
        int drawn = Arrays.hashCode(picture(v));
        v.value(0, 1, 1, 15);
        v.size(4, 4);
        Words.read(v, "size 5 3;most 7;window 2;penalty 7 8;paths 3;slack 3;left 0 12345");
        v.tune(6, 9);
        v.clear();
        Words.put(v, "x");
        due("undo tune", v.undo(), 5);
        due("LEAST", v.count(8), 1);
        due("still the text", v.at(0, 4, 0), 5);
        due("undo text", v.undo(), 4);
        int[] want = {4, 4, 3, 1, 2, 6, 255, 1, 1, 55, 0, 4, 20};
        for (int i = 0; i < want.length; i++) {
            due("undone count " + i, v.count(i), want[i]);
        }
        due("undo size", v.undo(), 3);
        due("the value", v.at(0, 1, 1), 15);
        due("undo value", v.undo(), 2);
        due("the drawn", Arrays.hashCode(picture(v)), drawn);
        due("undo draw", v.undo(), 1);
        due("blank", Arrays.stream(picture(v)).sum(), 0);
        due("undo focus", v.undo(), 0);
        due("FOCUS", v.count(9), 100);
        due("no more", v.undo(), NONE);
        undoEight();
    }

    private static void undoEight() {
        Counted v = new Counted();
        for (int i = 1; i <= 12; i++) {
            v.value(0, 0, 0, i);
            due("acts " + i, v.count(11), Math.min(i, 8));
        }
        for (int i = 7; i >= 0; i--) {
            due("undo " + i, v.undo(), i);
            due("value " + i, v.at(0, 0, 0), 4 + i);
        }
        due("the ninth", v.undo(), NONE);
        due("stays", v.at(0, 0, 0), 4);
        v.value(0, 0, 0, 1);
        due("anew", v.undo(), 0);
        v.value(0, 0, 0, 4);
        due("an act that changes nothing", v.count(11), 1);
        due("what is seen is undone too", v.code(0, 1, 1), 0);
        v.value(0, 1, 1, 9);
        due("a code", v.code(0, 1, 1), 255);
        v.undo();
        due("a code undone", v.code(0, 1, 1), 0);
    }

    private static void images() {
        Counted v = new Counted();
        due("image 2", v.image(2), false);
        due("image -1", v.image(-1), false);
        due("back 2", v.back(2), false);
        due("back -1", v.back(-1), false);
        due("none was made", v.back(1), false);
        v.layer(0, 0, 8, 6, 1, 3);
        v.draw();
        for (int i = 0; i < 8; i++) {
            int[] values = {5, 2, 3, 7, 129, 2, 2, 444};
            v.tune(i, values[i]);
        }
        int drawn = Arrays.hashCode(picture(v));
        due("image is no act", v.count(11), 8);
        due("image 0", v.image(0), true);
        due("still acts", v.count(11), 8);
        Words.read(v, "size 4 3;left 0 1234");
        v.clear();
        v.layer(1, 1, 1, 1, 0, 0);
        v.layer(1, 1, 1, 1, 0, 0);
        due("image 1", v.image(1), true);
        Words.put(v, "size");
        due("back 0", v.back(0), true);
        int[] want = {8, 6, 5, 2, 3, 7, 129, 2, 2, 444, 1, 0, 20};
        for (int i = 0; i < want.length; i++) {
            due("image's count " + i, v.count(i), want[i]);
        }
        due("drawn", Arrays.hashCode(picture(v)), drawn);
        due("layer's shift", v.truth(0, 0, 0), 1);
        due("nothing can be undone", v.undo(), NONE);
        v.value(0, 0, 0, 3);
        due("an act then", v.undo(), 0);
        due("back 1", v.back(1), true);
        due("w", v.count(0), 4);
        due("value", v.at(0, 3, 0), 4);
        due("layers", v.count(10), 2);
        due("again", v.back(0), true);
        due("drawn again", Arrays.hashCode(picture(v)), drawn);
        v.value(0, 0, 0, 3);
        due("made anew", v.image(0), true);
        v.size(3, 3);
        v.back(0);
        due("the new one", v.at(0, 0, 0), 3);
    }

    private static void count() {
        Counted v = new Counted();
        due("count -1", v.count(-1), NONE);
        due("count 13", v.count(13), NONE);
        due("count far", v.count(FAR_OUT), NONE);
        due("count far below", v.count(FAR_BELOW), NONE);
        Words.read(v, "size 9 10;most 4;window 2;penalty 11 12;paths 13;slack 2");
        v.tune(6, 14);
        v.tune(7, 15);
        v.layer(0, 0, 1, 1, 0, 0);
        Words.put(v, "123456789 123456789 1");
        int[] want = {9, 10, 4, 2, 11, 12, 13, 2, 14, 15, 1, 3, 40};
        for (int i = 0; i < want.length; i++) {
            due("count " + i, v.count(i), want[i]);
        }
    }

    public static void main(String[] args) {
        newObject();
        feed();
        text();
        faults();
        size();
        value();
        tune();
        layer();
        draw();
        truth();
        at();
        codes();
        cost();
        path();
        sum();
        shift();
        margin();
        kinds();
        pieces();
        fine();
        ground();
        between();
        filledAndDepth();
        row();
        energy();
        wrong();
        undo();
        images();
        count();
        CHECK.end();
    }
}
