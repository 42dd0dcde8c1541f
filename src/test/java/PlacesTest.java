import java.util.NoSuchElementException;

/** Every call that takes a PLACE: the last ones that are there, the first ones that are not. */
public final class PlacesTest {
    private static final int NONE = TwoViews.NONE;
    private static final int FAR_OUT = Integer.MAX_VALUE;
    private static final int FAR_BELOW = Integer.MIN_VALUE;
    private static final Check CHECK = new Check();

    /** The least, the first, the greatest, and the narrowest ones. */
    private static final int[][] SIZES = {{3, 3}, {8, 6}, {16, 12}, {16, 3}, {3, 12}};

    private interface Ask {
        int answer(Counted v, int view, int x, int y);
    }

    private PlacesTest() {
    }

    private static Counted sized(int[] size) {
        Counted v = new Counted();
        v.size(size[0], size[1]);
        v.layer(-20, -20, 40, 40, 1, 3);
        v.draw();
        return v;
    }

    private static void isThere(String name, Counted v, Ask ask, int[] place) {
        String call = name + " of " + place[0] + ", " + place[1] + ", " + place[2];
        try {
            CHECK.due(call + " is refused", ask.answer(v, place[0], place[1], place[2]) == NONE, false);
        } catch (NoSuchElementException e) {
            CHECK.fail(call + " threw " + e);
        }
    }

    private static void isNotThere(String name, Counted v, Ask ask, boolean thrown, int[] place) {
        String call = name + " of " + place[0] + ", " + place[1] + ", " + place[2];
        if (thrown) {
            CHECK.noSuch(call, () -> ask.answer(v, place[0], place[1], place[2]));
        } else {
            CHECK.due(call, ask.answer(v, place[0], place[1], place[2]), NONE);
        }
    }

    private static void edges(String name, int views, boolean thrown, Ask ask) {
        for (int[] size : SIZES) {
            int right = size[0] - 1;
            int low = size[1] - 1;
            String call = name + ", " + size[0] + " by " + size[1];
            Counted v = sized(size);
            for (int view = 0; view < views; view++) {
                int[][] there = {{view, 0, 0}, {view, right, 0}, {view, 0, low}, {view, right, low}};
                for (int[] p : there) {
                    isThere(call, v, ask, p);
                }
                int[][] beyond = {
                    {view, right + 1, 0}, {view, right + 1, low}, {view, 0, -1}, {view, right, -1},
                    {view, 0, low + 1}, {view, right, low + 1}, {view, -2, 0}, {view, FAR_OUT, 0},
                    {view, FAR_BELOW, 0}, {view, 0, FAR_OUT}, {view, 0, FAR_BELOW}, {view, low + 16, low + 16}
                };
                for (int[] p : beyond) {
                    isNotThere(call, v, ask, thrown, p);
                }
            }
            if (views == 2) {
                for (int view : new int[] {-1, 2, FAR_OUT, FAR_BELOW}) {
                    isNotThere(call, v, ask, thrown, new int[] {view, 0, 0});
                }
            }
        }
    }

    /** All but row(), where x NONE asks for what the row costs. */
    private static void leftEdge(String name, int views, boolean thrown, Ask ask) {
        for (int[] size : SIZES) {
            Counted v = sized(size);
            for (int view = 0; view < views; view++) {
                isNotThere(name, v, ask, thrown, new int[] {view, -1, 0});
                isNotThere(name, v, ask, thrown, new int[] {view, -1, size[1] - 1});
            }
        }
    }

    private static void refused(int promise, String name, int views, Ask ask) {
        CHECK.sentence(promise, name + ": NONE: others", () -> {
            edges(name, views, false, ask);
            leftEdge(name, views, false, ask);
        });
    }

    private static void thrown(int promise, String name, int views, Ask ask) {
        CHECK.sentence(promise, name + ": NoSuchElementException: no such PLACE", () -> {
            edges(name, views, true, ask);
            leftEdge(name, views, true, ask);
        });
    }

    public static void main(String[] args) {
        refused(5, "value", 2, (v, view, x, y) -> v.value(view, x, y, 1));
        refused(10, "truth, what 0", 1, (v, view, x, y) -> v.truth(x, y, 0));
        refused(10, "truth, what 1", 1, (v, view, x, y) -> v.truth(x, y, 1));
        thrown(11, "at", 2, Counted::at);
        thrown(12, "code", 2, Counted::code);
        thrown(13, "same", 2, Counted::same);
        refused(15, "cost", 1, (v, view, x, y) -> v.cost(x, y, 0));
        refused(16, "path", 1, (v, view, x, y) -> v.path(7, x, y, 0));
        refused(17, "sum", 1, (v, view, x, y) -> v.sum(x, y, 0));
        thrown(18, "shift", 2, Counted::shift);
        thrown(19, "margin", 1, (v, view, x, y) -> v.margin(x, y));
        refused(20, "kind", 2, Counted::kind);
        refused(22, "piece", 2, Counted::piece);
        thrown(25, "fine", 1, (v, view, x, y) -> v.fine(x, y));
        refused(28, "between", 1, (v, view, x, y) -> v.between(4, x, y));
        thrown(30, "filled", 2, Counted::filled);
        thrown(31, "depth", 1, (v, view, x, y) -> v.depth(x, y));
        CHECK.sentence(32, "row: NONE: others", () ->
            edges("row", 1, false, (v, view, x, y) -> v.row(y, x)));
        CHECK.end();
    }
}
