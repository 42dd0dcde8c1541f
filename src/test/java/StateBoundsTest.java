import java.math.BigInteger;

/** The edges of what an object holds: promises 1, 4 to 10 and 35 to 38, a sentence each. */
public final class StateBoundsTest {
    private static final int NONE = TwoViews.NONE;
    private static final int FAR_OUT = Integer.MAX_VALUE;
    private static final int FAR_BELOW = Integer.MIN_VALUE;
    private static final Check CHECK = new Check();
    private static final String BLANK = "00000000/00000000/00000000/00000000/00000000/00000000";

    private StateBoundsTest() {
    }

    private static void due(String call, long got, long want) {
        CHECK.due(call, got, want);
    }

    private static void due(String call, boolean got, boolean want) {
        CHECK.due(call, got, want);
    }

    private static void due(String call, String got, String want) {
        CHECK.due(call, got, want);
    }

    private static void counts(String when, Counted v, int... want) {
        for (int i = 0; i < want.length; i++) {
            due(when + ", count(" + i + ")", v.count(i), want[i]);
        }
    }

    // 1: a new object

    private static void atFirst() {
        Counted v = new Counted();
        counts("new", v, 8, 6, 3, 1, 2, 6, 255, 1, 1, 100, 0, 0, 0);
        due("LEFT", Rows.values(v, 0), BLANK);
        due("RIGHT", Rows.values(v, 1), BLANK);
    }

    private static void emptyAtFirst() {
        Counted v = new Counted();
        due("undo", v.undo(), NONE);
        due("back 0", v.back(0), false);
        due("back 1", v.back(1), false);
        due("clear", v.clear(), 0);
        due("text(1)", v.text(1), NONE);
        due("truth", v.truth(0, 0, 0), NONE);
        due("draw", v.draw(), 0);
    }

    private static void lastCall() {
        Counted v = new Counted();
        for (int i = 0; i < 503; i++) {
            v.value(0, 7, 5, i % 16);
        }
        for (int left = 7; left >= 0; left--) {
            due("undo after 503 ACTS", v.undo(), left);
        }
        // the 495th of them, by 494, is the oldest one that is left
        due("call 512", v.at(0, 7, 5), 494 % 16);
        due("calls", v.calls(), 512);
    }

    // 4: size

    private static void sizes() {
        for (int w = 1; w <= 18; w++) {
            for (int h = 1; h <= 14; h++) {
                Counted v = new Counted();
                boolean fits = w >= 3 && w <= 16 && h >= 3 && h <= 12;
                due("size(" + w + ", " + h + ")", v.size(w, h), fits);
                due("w", v.count(0), fits ? w : 8);
                due("h", v.count(1), fits ? h : 6);
                due("ACTS", v.count(11), fits ? 1 : 0);
            }
        }
    }

    private static void sizesFar() {
        Counted v = new Counted();
        for (int n : new int[] {0, -1, -3, -8, 19, 256 + 8, 65536 + 8, FAR_OUT, FAR_BELOW}) {
            due("size(" + n + ", 6)", v.size(n, 6), false);
            due("size(8, " + n + ")", v.size(8, n), false);
        }
        counts("refused", v, 8, 6, 3, 1, 2, 6, 255, 1, 1, 100, 0, 0, 0);
    }

    private static void sizeMakesZero() {
        Counted v = new Counted();
        v.size(16, 12);
        v.value(0, 15, 11, 15);
        v.value(1, 15, 11, 14);
        v.value(0, 0, 0, 13);
        v.value(1, 2, 2, 12);
        due("the least", v.size(3, 3), true);
        due("LEFT", Rows.values(v, 0), "000/000/000");
        due("RIGHT", Rows.values(v, 1), "000/000/000");
        due("the greatest again", v.size(16, 12), true);
        due("the far corner of LEFT", v.at(0, 15, 11), 0);
        due("the far corner of RIGHT", v.at(1, 15, 11), 0);
        due("the near corner", v.at(0, 0, 0), 0);
    }

    private static void likeSizeMakesZero() {
        Counted v = new Counted();
        v.value(1, 7, 5, 9);
        due("size as it is", v.size(8, 6), true);
        due("0 then", v.at(1, 7, 5), 0);
        due("an ACT", v.count(11), 2);
    }

    // 5: value

    private static void values() {
        for (int view = 0; view < 2; view++) {
            Counted v = new Counted();
            int was = 0;
            for (int n = 0; n <= 15; n++) {
                due("value " + n, v.value(view, 7, 5, n), was);
                due("at", v.at(view, 7, 5), n);
                was = n;
            }
            for (int n : new int[] {-1, 16, -2, 17, 256, FAR_OUT, FAR_BELOW}) {
                due("value " + n, v.value(view, 7, 5, n), NONE);
                due("as it was", v.at(view, 7, 5), 15);
            }
            due("the other view", v.at(1 - view, 7, 5), 0);
            due("back to 0", v.value(view, 7, 5, 0), 15);
        }
    }

    // 6: tune

    /** MOST, WINDOW, A, B, PATHS, SLACK, LEAST, FOCUS; A up to B, B down to A as they are at first. */
    private static void dial(int what, int low, int high, int first) {
        for (int n : new int[] {low - 1, high + 1, low - 2, high + 2, FAR_OUT, FAR_BELOW}) {
            Counted v = new Counted();
            due("tune(" + what + ", " + n + ")", v.tune(what, n), NONE);
            due("as it was", v.count(2 + what), first);
            due("no ACT", v.count(11), 0);
        }
        Counted v = new Counted();
        int was = first;
        for (int n : new int[] {low, low + 1, high - 1, high, low, high, high, first}) {
            due("tune(" + what + ", " + n + ")", v.tune(what, n), was);
            due("is", v.count(2 + what), n);
            was = n;
        }
        due("eight ACTS", v.count(11), 8);
    }

    private static void penaltiesApart() {
        Counted v = new Counted();
        due("B to 60", v.tune(3, 60), 6);
        due("B to 61", v.tune(3, 61), NONE);
        due("A to 60, as B", v.tune(2, 60), 2);
        due("A to 61", v.tune(2, 61), NONE);
        due("B to 59, below A", v.tune(3, 59), NONE);
        due("B to 60, as A", v.tune(3, 60), 60);
        due("A to 0", v.tune(2, 0), 60);
        due("A to -1", v.tune(2, -1), NONE);
        due("B to 0, as A", v.tune(3, 0), 60);
        due("B to -1", v.tune(3, -1), NONE);
        due("A to 1, above B", v.tune(2, 1), NONE);
        counts("at last", v, 8, 6, 3, 1, 0, 0);
    }

    private static void dialsThatAreNone() {
        Counted v = new Counted();
        for (int what : new int[] {-1, 8, -2, 9, 12, FAR_OUT, FAR_BELOW}) {
            due("tune(" + what + ", 1)", v.tune(what, 1), NONE);
            due("tune(" + what + ", 2)", v.tune(what, 2), NONE);
        }
        counts("refused", v, 8, 6, 3, 1, 2, 6, 255, 1, 1, 100, 0, 0, 0);
    }

    // 7: layer

    private static void layerEdges() {
        int[] good = {0, 0, 5, 5, 1};
        int[] low = {-20, -20, 1, 1, 0};
        int[] high = {20, 20, 40, 40, 3};
        for (int i = 0; i < 5; i++) {
            for (int n : new int[] {low[i] - 1, low[i], high[i], high[i] + 1, FAR_OUT, FAR_BELOW}) {
                int[] a = good.clone();
                a[i] = n;
                boolean fits = n >= low[i] && n <= high[i];
                Counted v = new Counted();
                String call = "layer, argument " + i + " " + n;
                due(call, v.layer(a[0], a[1], a[2], a[3], a[4], 7), fits ? 0 : NONE);
                due(call + ", LAYERS", v.count(10), fits ? 1 : 0);
            }
        }
    }

    private static void layerUpToMost() {
        for (int most = 1; most <= 7; most++) {
            Counted v = new Counted();
            v.tune(0, most);
            due("SHIFT above MOST " + most, v.layer(0, 0, 1, 1, most + 1, 0), NONE);
            due("SHIFT -1", v.layer(0, 0, 1, 1, -1, 0), NONE);
            due("SHIFT MOST " + most, v.layer(0, 0, 1, 1, most, 0), 0);
            due("its SHIFT", v.truth(0, 0, 0), most);
            due("SHIFT 0", v.layer(0, 0, 1, 1, 0, 0), 1);
            due("its SHIFT", v.truth(0, 0, 0), 0);
        }
    }

    private static void layersAreSix() {
        Counted v = new Counted();
        for (int i = 0; i < 6; i++) {
            due("layer " + i, v.layer(i, 0, 1, 1, 3, i), i);
            due("LAYERS", v.count(10), i + 1);
        }
        due("the seventh", v.layer(0, 0, 8, 6, 0, 9), NONE);
        due("six", v.count(10), 6);
        due("the first is still seen", v.truth(0, 0, 0), 3);
        due("none is further on", v.truth(6, 0, 0), NONE);
        due("none was taken for it", v.truth(5, 0, 0), 3);
        due("no ACTS", v.count(11), 0);
        due("cleared", v.clear(), 6);
        due("the first one again", v.layer(0, 0, 8, 6, 0, 9), 0);
    }

    private static void anySeed() {
        Counted v = new Counted();
        int number = 0;
        for (int seed : new int[] {0, -1, 1, FAR_OUT, FAR_BELOW, 69273666}) {
            due("seed " + seed, v.layer(0, 0, 1, 1, 0, seed), number);
            number++;
        }
    }

    /** As far as the left and upper edge lie away, W and H 20 end just before the picture. */
    private static void layersBeyondThePicture() {
        int[][] layers = {
            {-20, -20, 40, 40, 192}, {-20, -20, 20, 40, 0}, {-20, -20, 40, 20, 0},
            {-20, -20, 21, 40, 12}, {-20, -20, 40, 21, 16}, {-20, -20, 21, 21, 1},
            {-20, -20, 35, 31, 15 * 11}, {-20, -20, 36, 32, 192}, {15, 11, 1, 1, 1},
            {15, 11, 40, 40, 1}, {16, 11, 40, 40, 0}, {15, 12, 40, 40, 0}, {20, 20, 40, 40, 0}
        };
        for (int[] l : layers) {
            Counted v = new Counted();
            v.size(16, 12);
            v.layer(l[0], l[1], l[2], l[3], 0, 5);
            String at = l[0] + ", " + l[1] + ", " + l[2] + ", " + l[3];
            due("draw of layer " + at, v.draw(), l[4]);
        }
    }

    // 8: clear

    private static void clearing() {
        Counted v = new Counted();
        due("none", v.clear(), 0);
        for (int n = 1; n <= 6; n++) {
            for (int i = 0; i < n; i++) {
                v.layer(0, 0, 8, 6, 1, i);
            }
            due("clear of " + n, v.clear(), n);
            due("none then", v.count(10), 0);
            due("clear again", v.clear(), 0);
            due("no truth", v.truth(0, 0, 0), NONE);
        }
        due("no ACTS", v.count(11), 0);
    }

    private static void clearLeavesThePicture() {
        Counted v = new Counted();
        v.size(3, 3);
        v.layer(0, 0, 3, 3, 0, 7);
        v.draw();
        String drawn = Rows.values(v, 0);
        v.clear();
        due("LEFT stays", Rows.values(v, 0), drawn);
        due("ACTS", v.count(11), 2);
    }

    // 9: draw

    private static int texture(int seed, int i, int j) {
        BigInteger v = BigInteger.valueOf(seed).multiply(BigInteger.valueOf(31))
            .add(BigInteger.valueOf(i * 7919L + j * 104729L));
        v = v.multiply(BigInteger.valueOf(1103515245L)).add(BigInteger.valueOf(12345));
        return v.mod(BigInteger.ONE.shiftLeft(32)).shiftRight(16).intValue() & 15;
    }

    private static void texturesWrap() {
        // s * 31 is beyond an int from 69273667 and -69273667 on
        int[] seeds = {
            0, 1, -1, 69273666, 69273667, -69273666, -69273667, FAR_OUT, FAR_BELOW, FAR_BELOW + 1,
            // + 12345 just reaches the bits that count, or just does not; with 12344 and 12346 otherwise
            -578880227, -1803027171, 1093036322, -131110622
        };
        for (int seed : seeds) {
            Counted v = new Counted();
            v.size(16, 12);
            v.layer(0, 0, 16, 12, 0, seed);
            v.draw();
            for (int y = 0; y < 12; y++) {
                for (int x = 0; x < 16; x++) {
                    due("seed " + seed + " at " + x + ", " + y, v.at(0, x, y), texture(seed, x, y));
                }
            }
        }
    }

    private static void texturesFarIn() {
        Counted v = new Counted();
        v.size(16, 12);
        v.tune(0, 7);
        v.layer(-20, -20, 40, 40, 4, FAR_OUT);
        v.draw();
        due("the near corner", v.at(0, 0, 0), texture(FAR_OUT, 20, 20));
        due("the far corner", v.at(0, 15, 11), texture(FAR_OUT, 35, 31));
        due("the far corner of RIGHT", v.at(1, 15, 11), texture(FAR_OUT, 39, 31));
        v.clear();
        v.layer(-20, -20, 40, 40, 5, FAR_OUT);
        v.draw();
        due("RIGHT up to 14 alone", v.at(1, 14, 11), texture(FAR_OUT, 39, 31));
        due("0 without any", v.at(1, 15, 11), 0);
    }

    /** 3 by 2 of X 3, Y 1: in RIGHT by 2 at 1 to 3. None of its signs is 0. */
    private static void drawnEdges() {
        Counted v = new Counted();
        for (int x = 0; x < 8; x++) {
            v.value(0, x, 3, 9);
            v.value(1, x, 0, 9);
        }
        v.layer(3, 1, 3, 2, 2, 1);
        due("draw", v.draw(), 6);
        StringBuilder row1 = new StringBuilder();
        StringBuilder row2 = new StringBuilder();
        for (int i = 0; i < 3; i++) {
            row1.append(Integer.toHexString(texture(1, i, 0)));
            row2.append(Integer.toHexString(texture(1, i, 1)));
            due("not 0", texture(1, i, 0) > 0 && texture(1, i, 1) > 0, true);
        }
        String none = "00000000";
        due("LEFT", Rows.values(v, 0), none + "/000" + row1 + "00/000" + row2 + "00/" + none + "/" + none + "/" + none);
        due("RIGHT", Rows.values(v, 1), none + "/0" + row1 + "0000/0" + row2 + "0000/" + none + "/" + none + "/" + none);
    }

    private static void shiftedOutOfThePicture() {
        Counted v = new Counted();
        v.layer(0, 0, 2, 6, 1, 1);
        v.layer(8, 0, 5, 6, 3, 4);
        // in RIGHT the first lies at -1, 0 and the second at 5 to 9
        due("LEFT has the first one alone", v.draw(), 12);
        due("LEFT 1", v.at(0, 1, 2), texture(1, 1, 2));
        due("LEFT 2", v.at(0, 2, 2), 0);
        due("RIGHT 0", v.at(1, 0, 2), texture(1, 1, 2));
        due("RIGHT 1", v.at(1, 1, 2), 0);
        due("RIGHT 4", v.at(1, 4, 2), 0);
        due("RIGHT 5", v.at(1, 5, 2), texture(4, 0, 2));
        due("RIGHT 7", v.at(1, 7, 2), texture(4, 2, 2));
    }

    private static void lastOneIsSeen() {
        Counted v = new Counted();
        for (int i = 0; i < 6; i++) {
            v.layer(i, 0, 8, 6, 0, 100 + i);
        }
        due("draw", v.draw(), 48);
        for (int x = 0; x < 8; x++) {
            int last = Math.min(x, 5);
            due("LEFT " + x, v.at(0, x, 3), texture(100 + last, x - last, 3));
            due("RIGHT " + x, v.at(1, x, 3), texture(100 + last, x - last, 3));
        }
    }

    private static void drawnOfNone() {
        Counted v = new Counted();
        v.value(0, 0, 0, 5);
        v.value(1, 7, 5, 5);
        due("draw", v.draw(), 0);
        due("LEFT", Rows.values(v, 0), BLANK);
        due("RIGHT", Rows.values(v, 1), BLANK);
        due("an ACT", v.count(11), 3);
    }

    // 10: truth

    private static void truthKinds() {
        Counted v = new Counted();
        v.layer(0, 0, 8, 6, 1, 1);
        due("what 0", v.truth(1, 1, 0), 1);
        due("what 1", v.truth(1, 1, 1), 0);
        for (int what : new int[] {-1, 2, FAR_OUT, FAR_BELOW}) {
            due("what " + what, v.truth(1, 1, what), NONE);
        }
    }

    private static void truthWithout() {
        Counted v = new Counted();
        v.layer(2, 2, 3, 2, 3, 1);
        String truth = Rows.of(v, (x, y) -> v.truth(x, y, 0));
        due("TRUTH", truth, "--------/--------/--333---/--333---/--------/--------");
        // x - 3 is not there for 2
        String covered = Rows.of(v, (x, y) -> v.truth(x, y, 1));
        due("COVERED", covered, "00000000/00000000/00100000/00100000/00000000/00000000");
        due("nothing was drawn", Rows.values(v, 0), BLANK);
    }

    /** A wall by 1, a plate by 3 at 4 to 5: in RIGHT the plate lies at 1 to 2, on the wall's 2 to 3. */
    private static void coveredByAnother() {
        Counted v = new Counted();
        v.layer(0, 0, 8, 6, 1, 1);
        v.layer(4, 2, 2, 2, 3, 2);
        String truth = Rows.of(v, (x, y) -> v.truth(x, y, 0));
        due("TRUTH", truth, "11111111/11111111/11113311/11113311/11111111/11111111");
        String covered = Rows.of(v, (x, y) -> v.truth(x, y, 1));
        due("COVERED", covered, "10000000/10000000/10110000/10110000/10000000/10000000");
    }

    /** A layer of the same SHIFT that was told later, but lies elsewhere, covers nothing. */
    private static void anotherOfLikeShift() {
        Counted v = new Counted();
        v.layer(0, 0, 8, 6, 2, 1);
        v.layer(3, 0, 2, 6, 2, 1);
        due("COVERED", Rows.of(v, (x, y) -> v.truth(x, y, 1)),
            "11000000/11000000/11000000/11000000/11000000/11000000");
        due("TRUTH", v.truth(3, 3, 0), 2);
    }

    private static void truthNow() {
        Counted v = new Counted();
        v.layer(0, 0, 8, 6, 2, 1);
        v.draw();
        v.clear();
        due("cleared", v.truth(3, 3, 0), NONE);
        due("cleared", v.truth(0, 0, 1), 0);
        v.layer(0, 0, 8, 6, 3, 1);
        due("told anew", v.truth(3, 3, 0), 3);
        due("x - 3 is there", v.truth(3, 3, 1), 0);
        due("x - 3 is not there", v.truth(2, 3, 1), 1);
    }

    // 11: at

    /** Eight VALUES in the corners of both views: none lies in another one's PLACE. */
    private static void corners() {
        for (int[] size : new int[][] {{3, 3}, {8, 6}, {16, 12}, {16, 3}, {3, 12}}) {
            Counted v = new Counted();
            v.size(size[0], size[1]);
            int right = size[0] - 1;
            int low = size[1] - 1;
            int[][] places = {{0, 0}, {right, 0}, {0, low}, {right, low}, {1, 1}};
            for (int i = 0; i < 10; i++) {
                due("value", v.value(i / 5, places[i % 5][0], places[i % 5][1], 6 + i), 0);
            }
            for (int i = 0; i < 10; i++) {
                due("at " + i, v.at(i / 5, places[i % 5][0], places[i % 5][1]), 6 + i);
            }
            due("beside", v.at(0, 1, 0), 0);
            due("below", v.at(1, 0, 1), 0);
        }
    }

    // 35: undo

    private static void upToEight() {
        for (int acts = 0; acts <= 20; acts++) {
            Counted v = new Counted();
            for (int i = 1; i <= acts; i++) {
                v.tune(7, i);
                due("ACTS", v.count(11), Math.min(i, 8));
            }
            int held = Math.min(acts, 8);
            for (int i = 1; i <= held; i++) {
                due("undo " + i + " of " + acts, v.undo(), held - i);
                int left = acts - i;
                due("FOCUS", v.count(9), left == 0 ? 100 : left);
                due("ACTS left", v.count(11), held - i);
            }
            int focus = v.count(9);
            due("no more", v.undo(), NONE);
            due("as it was", v.count(9), focus);
            due("none left", v.count(11), 0);
        }
    }

    private static void undoAndGoOn() {
        Counted v = new Counted();
        for (int i = 1; i <= 10; i++) {
            v.tune(7, i);
        }
        for (int i = 9; i >= 7; i--) {
            v.undo();
            due("FOCUS", v.count(9), i);
        }
        for (int i = 21; i <= 26; i++) {
            v.tune(7, i);
        }
        due("full again", v.count(11), 8);
        int[] want = {25, 24, 23, 22, 21, 7, 6, 5};
        for (int i = 0; i < 8; i++) {
            due("undo", v.undo(), 7 - i);
            due("FOCUS", v.count(9), want[i]);
        }
        due("no more", v.undo(), NONE);
    }

    private static void eachActIsUndone() {
        Counted v = new Counted();
        v.layer(0, 0, 8, 6, 1, 3);
        v.value(0, 0, 0, 5);
        v.size(3, 4);
        due("undo size", v.undo(), 1);
        counts("size undone", v, 8, 6);
        due("the VALUE too", v.at(0, 0, 0), 5);
        v.draw();
        due("undo draw", v.undo(), 1);
        due("LEFT", v.at(0, 0, 0), 5);
        due("RIGHT", v.at(1, 7, 5), 0);
        due("text", Words.read(v, "size 3 3;most 7;window 2;penalty 0 60;paths 1;slack 3;left 0 fff"), 6);
        due("undo text", v.undo(), 1);
        counts("text undone", v, 8, 6, 3, 1, 2, 6, 255, 1, 1, 100, 1, 1, 0);
        due("LEFT", v.at(0, 0, 0), 5);
        int[] other = {7, 2, 1, 60, 1, 0, 50, 999};
        for (int what = 0; what < 8; what++) {
            int was = v.count(2 + what);
            due("tune " + what, v.tune(what, other[what]), was);
            due("undo tune " + what, v.undo(), 1);
            due("tune undone " + what, v.count(2 + what), was);
        }
        due("undo value", v.undo(), 0);
        due("as at first", Rows.values(v, 0), BLANK);
    }

    private static void actsThatChangeNothing() {
        Counted v = new Counted();
        v.value(0, 0, 0, 0);
        due("value", v.count(11), 1);
        v.size(8, 6);
        due("size", v.count(11), 2);
        Words.read(v, "size 8 6");
        due("text", v.count(11), 3);
        v.draw();
        due("draw", v.count(11), 4);
        v.tune(0, 3);
        due("tune", v.count(11), 5);
        for (int left = 4; left >= 0; left--) {
            due("undo", v.undo(), left);
            counts("undone", v, 8, 6, 3, 1, 2, 6, 255, 1, 1, 100, 0, left, 0);
        }
        due("none", v.undo(), NONE);
    }

    private static void noActs() {
        Counted v = new Counted();
        Words.put(v, "size 3 3");
        v.layer(0, 0, 1, 1, 0, 0);
        v.clear();
        v.image(0);
        v.image(1);
        v.text(-1);
        v.text(21);
        v.text(3);
        v.size(2, 6);
        v.size(8, 13);
        v.value(0, 0, 0, 16);
        v.value(2, 0, 0, 1);
        v.tune(0, 8);
        v.tune(8, 1);
        v.tune(2, 7);
        due("ACTS", v.count(11), 0);
        due("undo", v.undo(), NONE);
    }

    private static void undoLeavesLayersAndTape() {
        Counted v = new Counted();
        v.tune(7, 5);
        v.layer(0, 0, 8, 6, 2, 3);
        Words.put(v, "size 4 5;left 4 1234");
        due("undo", v.undo(), 0);
        due("LAYERS", v.count(10), 1);
        due("TRUTH", v.truth(3, 3, 0), 2);
        due("THE TAPE", v.count(12), 20);
        due("text", v.text(20), 1);
        due("THE TAPE is empty", v.count(12), 0);
        v.clear();
        due("undo text", v.undo(), 0);
        due("THE TAPE stays empty", v.count(12), 0);
        due("LAYERS stay cleared", v.count(10), 0);
    }

    // 36 and 37: image, back

    private static void imageNumbers() {
        for (int i : new int[] {-1, 2, 3, FAR_OUT, FAR_BELOW}) {
            Counted v = new Counted();
            due("image(" + i + ")", v.image(i), false);
            due("back(" + i + ")", v.back(i), false);
            due("none was made, 0", v.back(0), false);
            due("none was made, 1", v.back(1), false);
        }
    }

    private static void oneImageMade() {
        for (int i = 0; i < 2; i++) {
            Counted v = new Counted();
            v.tune(7, 10 + i);
            due("image(" + i + ")", v.image(i), true);
            v.tune(7, 500);
            due("back of the other one", v.back(1 - i), false);
            due("as it was", v.count(9), 500);
            due("ACTS as they were", v.count(11), 2);
            due("back(" + i + ")", v.back(i), true);
            due("as in it", v.count(9), 10 + i);
            due("nothing can be undone", v.count(11), 0);
            due("undo", v.undo(), NONE);
            due("still not made", v.back(1 - i), false);
        }
    }

    private static void imageOfANewOne() {
        Counted v = new Counted();
        due("image", v.image(1), true);
        v.size(3, 3);
        v.layer(0, 0, 1, 1, 0, 0);
        due("back", v.back(1), true);
        counts("as at first", v, 8, 6, 3, 1, 2, 6, 255, 1, 1, 100, 0, 0, 0);
    }

    private static void imagesAreApart() {
        Counted v = new Counted();
        v.size(3, 3);
        v.layer(0, 0, 3, 3, 1, 1);
        v.value(0, 0, 0, 1);
        v.image(0);
        v.size(4, 3);
        v.layer(0, 0, 4, 3, 2, 2);
        v.value(0, 3, 2, 2);
        v.image(1);
        for (int turn = 0; turn < 2; turn++) {
            v.clear();
            v.size(16, 12);
            due("back 0", v.back(0), true);
            due("0", Rows.values(v, 0), "100/000/000");
            due("LAYERS of 0", v.count(10), 1);
            due("TRUTH of 0", v.truth(0, 0, 0), 1);
            due("back 1", v.back(1), true);
            due("1", Rows.values(v, 0), "0000/0000/0002");
            due("LAYERS of 1", v.count(10), 2);
            due("TRUTH of 1", v.truth(0, 0, 0), 2);
        }
    }

    private static void imageStaysAsMade() {
        Counted v = new Counted();
        v.size(3, 3);
        v.value(0, 0, 0, 1);
        v.layer(0, 0, 3, 3, 1, 1);
        v.image(0);
        v.value(0, 1, 1, 2);
        v.layer(0, 0, 3, 3, 2, 2);
        v.undo();
        v.undo();
        due("undone behind it", v.at(0, 0, 0), 0);
        due("back", v.back(0), true);
        due("LEFT", Rows.values(v, 0), "100/000/000");
        due("LAYERS", v.count(10), 1);
        v.value(0, 2, 2, 3);
        v.clear();
        due("back again", v.back(0), true);
        due("LEFT again", Rows.values(v, 0), "100/000/000");
        due("LAYERS again", v.count(10), 1);
        v.value(0, 2, 2, 3);
        due("made anew", v.image(0), true);
        v.size(3, 3);
        v.back(0);
        due("the new one", Rows.values(v, 0), "100/000/003");
    }

    private static void imageOfEveryDial() {
        Counted v = new Counted();
        int[] other = {7, 2, 5, 60, 1, 3, 50, 999};
        for (int what = 7; what >= 0; what--) {
            v.tune(what, other[what]);
        }
        for (int i = 0; i < 6; i++) {
            v.layer(i, 0, 1, 1, i, i);
        }
        due("image", v.image(0), true);
        due("ACTS as they were", v.count(11), 8);
        due("an ACT can be undone behind it", v.undo(), 7);
        Words.read(v, "size 3 3;most 1");
        v.tune(6, 1);
        v.tune(7, 1);
        v.clear();
        due("back", v.back(0), true);
        counts("as in it", v, 8, 6, 7, 2, 5, 60, 1, 3, 50, 999, 6, 0, 0);
        for (int i = 0; i < 6; i++) {
            due("LAYER " + i, v.truth(i, 0, 0), i);
        }
    }

    /** Six others are told behind an IMAGE: with it the first six are back, in all that they are. */
    private static void imageOfEveryLayer() {
        Counted v = new Counted();
        for (int i = 0; i < 6; i++) {
            v.layer(i, i % 3, 2 + i % 2, 1 + i % 3, i % 4, 40 + i);
        }
        v.draw();
        String left = Rows.values(v, 0);
        String right = Rows.values(v, 1);
        v.image(1);
        v.clear();
        for (int i = 0; i < 6; i++) {
            v.layer(5 - i, 2 - i % 3, 1, 6 - i, 3 - i % 4, 90 + i);
        }
        v.draw();
        v.back(1);
        v.size(8, 6);
        due("draw", v.draw() > 0, true);
        due("LEFT", Rows.values(v, 0), left);
        due("RIGHT", Rows.values(v, 1), right);
    }

    /** An IMAGE keeps what ACTS change, and LAYERS; THE TAPE is not named there. */
    private static void backLeavesTheTape() {
        Counted v = new Counted();
        v.image(0);
        Words.put(v, "size 3 3");
        due("back", v.back(0), true);
        due("THE TAPE", v.count(12), 20);
        due("text", v.text(8), 0);
        due("w", v.count(0), 3);
    }

    private static void backEmptiesWhatCanBeUndone() {
        Counted v = new Counted();
        v.image(0);
        for (int i = 1; i <= 9; i++) {
            v.tune(7, i);
        }
        v.back(0);
        due("undo", v.undo(), NONE);
        v.tune(7, 50);
        due("one ACT", v.count(11), 1);
        due("undo", v.undo(), 0);
        due("FOCUS", v.count(9), 100);
        due("no more", v.undo(), NONE);
    }

    // 38: count

    private static void countsThatAreNone() {
        Counted v = new Counted();
        for (int what : new int[] {-1, 13, -2, 14, FAR_OUT, FAR_BELOW}) {
            due("count(" + what + ")", v.count(what), NONE);
        }
        counts("others", v, 8, 6, 3, 1, 2, 6, 255, 1, 1, 100, 0, 0, 0);
    }

    private static void countsAtMost() {
        Counted v = new Counted();
        v.size(16, 12);
        int[] most = {7, 2, 60, 60, 255, 3, 50, 999};
        for (int what : new int[] {0, 1, 3, 2, 4, 5, 6, 7}) {
            v.tune(what, most[what]);
        }
        for (int i = 0; i < 6; i++) {
            v.layer(0, 0, 1, 1, 7, 0);
        }
        for (int i = 0; i < 35; i++) {
            v.feed(0, 0, 0, 0, 0);
        }
        counts("most", v, 16, 12, 7, 2, 60, 60, 255, 3, 50, 999, 6, 8, 700);
    }

    private static void countsAtLeast() {
        Counted v = new Counted();
        v.size(3, 3);
        int[] least = {1, 1, 0, 0, 1, 0, 1, 1};
        for (int what = 0; what < 8; what++) {
            v.tune(what, least[what]);
        }
        v.image(0);
        v.back(0);
        counts("least", v, 3, 3, 1, 1, 0, 0, 1, 0, 1, 1, 0, 0, 0);
    }

    private static void pictures() {
        CHECK.sentence(1, "8 by 6, all 0; the values at first", StateBoundsTest::atFirst);
        CHECK.sentence(1, "empty at first: ACTS, IMAGES, LAYERS, THE TAPE", StateBoundsTest::emptyAtFirst);
        CHECK.sentence(1, "used for at most 512 calls", StateBoundsTest::lastCall);
        CHECK.sentence(4, "PLACES 3 to 16, 3 to 12", StateBoundsTest::sizes);
        CHECK.sentence(4, "false: others", StateBoundsTest::sizesFar);
        CHECK.sentence(4, "all 0", StateBoundsTest::sizeMakesZero);
        CHECK.sentence(4, "all 0, as many as before", StateBoundsTest::likeSizeMakesZero);
        CHECK.sentence(5, "VALUES 0 to 15: what it was; NONE: others", StateBoundsTest::values);
        CHECK.sentence(6, "MOST 1 to 7", () -> dial(0, 1, 7, 3));
        CHECK.sentence(6, "WINDOW 1, 2", () -> dial(1, 1, 2, 1));
        CHECK.sentence(6, "A 0 to B", () -> dial(2, 0, 6, 2));
        CHECK.sentence(6, "B A to 60", () -> dial(3, 2, 60, 6));
        CHECK.sentence(6, "PATHS: one at least", () -> dial(4, 1, 255, 255));
        CHECK.sentence(6, "SLACK 0 to 3", () -> dial(5, 0, 3, 1));
        CHECK.sentence(6, "LEAST 1 to 50", () -> dial(6, 1, 50, 1));
        CHECK.sentence(6, "FOCUS 1 to 999", () -> dial(7, 1, 999, 100));
        CHECK.sentence(6, "A is B at most; 0 to 60", StateBoundsTest::penaltiesApart);
        CHECK.sentence(6, "what 0 to 7; NONE: others", StateBoundsTest::dialsThatAreNone);
    }

    private static void layers() {
        CHECK.sentence(7, "X, Y -20 to 20, W, H 1 to 40", StateBoundsTest::layerEdges);
        CHECK.sentence(7, "SHIFT (0 to MOST)", StateBoundsTest::layerUpToMost);
        CHECK.sentence(7, "6 at most; NONE: 6 there are", StateBoundsTest::layersAreSix);
        CHECK.sentence(7, "SEED: any int", StateBoundsTest::anySeed);
        CHECK.sentence(7, "they may go beyond the picture", StateBoundsTest::layersBeyondThePicture);
        CHECK.sentence(8, "how many there were, 0 to 6", StateBoundsTest::clearing);
        CHECK.sentence(8, "no LAYERS any more; the picture stays", StateBoundsTest::clearLeavesThePicture);
        CHECK.sentence(9, "TEXTURE: ints, wrapping", StateBoundsTest::texturesWrap);
        CHECK.sentence(9, "TEXTURE at x - X, y - Y, as far in as can be", StateBoundsTest::texturesFarIn);
        CHECK.sentence(9, "X at most x, x below X and W, y likewise", StateBoundsTest::drawnEdges);
        CHECK.sentence(9, "each LAYER lying SHIFT to the left", StateBoundsTest::shiftedOutOfThePicture);
        CHECK.sentence(9, "the last LAYER told that has it", StateBoundsTest::lastOneIsSeen);
        CHECK.sentence(9, "without any 0", StateBoundsTest::drawnOfNone);
        CHECK.sentence(10, "what 0, 1; NONE: others", StateBoundsTest::truthKinds);
        CHECK.sentence(10, "NONE without any; COVERED: that is not there", StateBoundsTest::truthWithout);
        CHECK.sentence(10, "COVERED: another LAYER is seen", StateBoundsTest::coveredByAnother);
        CHECK.sentence(10, "COVERED: another LAYER by the same SHIFT", StateBoundsTest::anotherOfLikeShift);
        CHECK.sentence(10, "by LAYERS now", StateBoundsTest::truthNow);
    }

    private static void actsAndImages() {
        CHECK.sentence(11, "VALUE of a PLACE of a view: the corners", StateBoundsTest::corners);
        CHECK.sentence(35, "the latest 8 can be undone; NONE: none can", StateBoundsTest::upToEight);
        CHECK.sentence(35, "the latest 8, after some are undone", StateBoundsTest::undoAndGoOn);
        CHECK.sentence(35, "value(), size(), text(), draw(), tune()", StateBoundsTest::eachActIsUndone);
        CHECK.sentence(35, "whether or not something is another one", StateBoundsTest::actsThatChangeNothing);
        CHECK.sentence(35, "not what was refused", StateBoundsTest::noActs);
        CHECK.sentence(35, "LAYERS, THE TAPE stay", StateBoundsTest::undoLeavesLayersAndTape);
        CHECK.sentence(36, "false: others (0, 1)", StateBoundsTest::imageNumbers);
        CHECK.sentence(36, "an IMAGE is made: 0 and 1 apart", StateBoundsTest::imagesAreApart);
        CHECK.sentence(36, "an IMAGE is made: it stays as it was made", StateBoundsTest::imageStaysAsMade);
        CHECK.sentence(36, "keeps all that they change, and LAYERS", StateBoundsTest::imageOfEveryDial);
        CHECK.sentence(36, "and LAYERS: X, Y, W, H, SHIFT, SEED", StateBoundsTest::imageOfEveryLayer);
        CHECK.sentence(37, "false: none was made", StateBoundsTest::oneImageMade);
        CHECK.sentence(37, "all is as in an IMAGE of a new object", StateBoundsTest::imageOfANewOne);
        CHECK.sentence(37, "all that they change, and LAYERS: THE TAPE stays", StateBoundsTest::backLeavesTheTape);
        CHECK.sentence(37, "nothing can be undone then", StateBoundsTest::backEmptiesWhatCanBeUndone);
        CHECK.sentence(38, "NONE for another what", StateBoundsTest::countsThatAreNone);
        CHECK.sentence(38, "each as great as can be", StateBoundsTest::countsAtMost);
        CHECK.sentence(38, "each as small as can be", StateBoundsTest::countsAtLeast);
    }

    public static void main(String[] args) {
        pictures();
        layers();
        actsAndImages();
        CHECK.end();
    }
}
