import java.util.NoSuchElementException;

/**
 * What a refused call leaves as it was: after it, an object answers as another one does that was
 * never asked. Calls that only ask are looked at likewise.
 */
public final class RefusedTest {
    private static final int FAR_OUT = Integer.MAX_VALUE;
    private static final int FAR_BELOW = Integer.MIN_VALUE;
    private static final Check CHECK = new Check();

    private interface Made {
        Counted anew();
    }

    private interface Call {
        void on(Counted v);
    }

    private RefusedTest() {
    }

    /** Something of everything: LAYERS, ACTS, one of two IMAGES, bytes on THE TAPE. */
    private static Counted busy() {
        Counted v = new Counted();
        v.layer(0, 0, 4, 3, 1, 7);
        v.layer(1, 1, 2, 1, 2, 9);
        v.size(4, 3);
        v.draw();
        v.image(0);
        v.tune(7, 55);
        v.value(1, 2, 1, 9);
        v.layer(3, 0, 1, 3, 0, 5);
        Words.put(v, "size 3 3;left 0 f0f");
        return v;
    }

    private static Counted withFullTape() {
        Counted v = new Counted();
        v.size(4, 3);
        Words.put(v, "size 3 3;left 0 f0f" + " ".repeat(673) + ";slack 3");
        return v;
    }

    private static Counted withSixLayers() {
        Counted v = new Counted();
        v.size(4, 3);
        for (int i = 0; i < 6; i++) {
            v.layer(i % 4, 0, 1, 2, i % 4, i);
        }
        return v;
    }

    /** Acts on a 3 by 3 picture, so that all eight can be looked at. */
    private static Counted withEightActs() {
        Counted v = new Counted();
        for (int i = 0; i < 3; i++) {
            v.size(3, 3);
        }
        for (int i = 0; i < 7; i++) {
            v.value(i % 2, i % 3, i / 3, i + 1);
        }
        return v;
    }

    private static void addState(StringBuilder told, Counted v) {
        for (int i = 0; i < 13; i++) {
            told.append(v.count(i)).append(' ');
        }
        told.append(Rows.values(v, 0)).append(' ').append(Rows.values(v, 1)).append('\n');
    }

    private static void addLayers(StringBuilder told, Counted v) {
        told.append(Rows.of(v, (x, y) -> v.truth(x, y, 0))).append(' ');
        told.append(Rows.of(v, (x, y) -> v.truth(x, y, 1))).append('\n');
    }

    private static void addDepth(StringBuilder told, Counted v) {
        for (int i = 0; i < 3; i++) {
            told.append(v.energy(i)).append(' ').append(v.ground(i)).append(' ').append(v.wrong(0, i)).append(' ');
            told.append(v.kinds(0, i)).append(' ').append(v.kinds(1, i)).append(' ').append(v.holes(i + 1)).append(' ');
        }
        told.append(v.codes(0)).append(' ').append(v.codes(1)).append(' ').append(v.depth(2, 1)).append('\n');
    }

    /** All that can be told of an object; the acts, the images and the tape at last, as they end it. */
    private static String everything(Counted v) {
        StringBuilder told = new StringBuilder();
        addState(told, v);
        addLayers(told, v);
        addDepth(told, v);
        // 8 by 6 before the first size() is left out: it would take too many calls
        while (v.count(11) > 1) {
            told.append("undo ").append(v.undo()).append(' ');
            addState(told, v);
        }
        told.append("undo ").append(v.undo()).append(' ').append(v.count(0)).append('\n');
        told.append("text ").append(v.text(v.count(12))).append(' ');
        addState(told, v);
        for (int i = 0; i < 2; i++) {
            boolean made = v.back(i);
            told.append("back ").append(made).append(' ');
            if (made) {
                addState(told, v);
                addLayers(told, v);
            }
        }
        return told.toString();
    }

    private static void leaves(int promise, String name, Made made, Call... calls) {
        CHECK.sentence(promise, name + " leaves all as it was", () -> {
            String untouched = everything(made.anew());
            for (int i = 0; i < calls.length; i++) {
                Counted v = made.anew();
                try {
                    calls[i].on(v);
                } catch (NoSuchElementException e) {
                    CHECK.due("thrown where it may be", promise >= 11 && promise <= 31, true);
                }
                CHECK.due(name + " " + i, everything(v), untouched);
            }
        });
    }

    private static void tapeAndText() {
        leaves(2, "feed beyond 700", RefusedTest::withFullTape, v -> v.feed(0, 0, 0, 0, 0),
            v -> v.feed(-1, -1, -1, -1, -1));
        leaves(3, "text of too many, of fewer than none", RefusedTest::busy, v -> v.text(-1), v -> v.text(21),
            v -> v.text(FAR_OUT), v -> v.text(FAR_BELOW));
        leaves(3, "text of a full tape and one more", RefusedTest::withFullTape, v -> v.text(701));
        Made emptied = () -> {
            Counted v = busy();
            v.text(0);
            return v;
        };
        leaves(3, "a FAULT", emptied, v -> v.text(0), v -> Words.read(v, "size"), v -> Words.read(v, "size 2 3"),
            v -> Words.read(v, "size 16 12;most 7;window 2;slack 4"),
            v -> Words.read(v, "size 3 3;penalty 60 59"),
            v -> Words.read(v, "size 3 3;left 0 ff"),
            v -> Words.read(v, "size 3 3;left 0 fff;right 0 fff;right 2 ffg"));
    }

    private static void pictures() {
        leaves(4, "size", RefusedTest::busy, v -> v.size(2, 3), v -> v.size(3, 2), v -> v.size(17, 12),
            v -> v.size(16, 13), v -> v.size(FAR_BELOW, 3), v -> v.size(3, FAR_OUT), v -> v.size(0, 0));
        leaves(5, "value", RefusedTest::busy, v -> v.value(-1, 0, 0, 5), v -> v.value(2, 0, 0, 5),
            v -> v.value(0, -1, 0, 5), v -> v.value(0, 4, 0, 5), v -> v.value(0, 0, -1, 5),
            v -> v.value(1, 0, 3, 5), v -> v.value(1, 0, 0, -1), v -> v.value(1, 0, 0, 16));
        leaves(6, "tune", RefusedTest::busy, v -> v.tune(-1, 1), v -> v.tune(8, 1), v -> v.tune(0, 0),
            v -> v.tune(0, 8), v -> v.tune(1, 0), v -> v.tune(1, 3), v -> v.tune(2, -1), v -> v.tune(2, 7),
            v -> v.tune(3, 1), v -> v.tune(3, 61), v -> v.tune(4, 0), v -> v.tune(4, 256), v -> v.tune(5, -1),
            v -> v.tune(5, 4), v -> v.tune(6, 0), v -> v.tune(6, 51), v -> v.tune(7, 0), v -> v.tune(7, 1000));
        leaves(6, "tune, when eight ACTS can be undone,", RefusedTest::withEightActs, v -> v.tune(0, 8));
        leaves(4, "size, when eight ACTS can be undone,", RefusedTest::withEightActs, v -> v.size(2, 2));
        leaves(5, "value, when eight ACTS can be undone,", RefusedTest::withEightActs, v -> v.value(0, 3, 0, 1));
        leaves(3, "text, when eight ACTS can be undone,", RefusedTest::withEightActs, v -> v.text(1), v -> v.text(0));
    }

    private static void layers() {
        leaves(7, "layer", RefusedTest::busy, v -> v.layer(-21, 0, 9, 9, 0, 1), v -> v.layer(21, 0, 9, 9, 0, 1),
            v -> v.layer(0, -21, 40, 40, 0, 1), v -> v.layer(0, 21, 9, 9, 0, 1), v -> v.layer(0, 0, 0, 9, 0, 1),
            v -> v.layer(0, 0, 41, 9, 0, 1), v -> v.layer(0, 0, 9, 0, 0, 1), v -> v.layer(0, 0, 9, 41, 0, 1),
            v -> v.layer(0, 0, 9, 9, -1, 1), v -> v.layer(0, 0, 9, 9, 4, 1));
        leaves(7, "a seventh layer", RefusedTest::withSixLayers, v -> v.layer(0, 0, 9, 9, 0, 1));
        leaves(10, "truth", RefusedTest::busy, v -> v.truth(-1, 0, 0), v -> v.truth(4, 0, 0), v -> v.truth(0, 3, 0),
            v -> v.truth(0, 0, 2), v -> v.truth(0, 0, -1), v -> v.truth(0, 0, 0), v -> v.truth(0, 0, 1));
    }

    private static void askings() {
        leaves(11, "at", RefusedTest::busy, v -> v.at(2, 0, 0), v -> v.at(0, 4, 0), v -> v.at(0, 0, 0));
        leaves(12, "code", RefusedTest::busy, v -> v.code(2, 0, 0), v -> v.code(0, 4, 0), v -> v.code(0, 0, 0));
        leaves(13, "same", RefusedTest::busy, v -> v.same(2, 0, 0), v -> v.same(0, 4, 0), v -> v.same(0, 0, 0));
        leaves(14, "codes", RefusedTest::busy, v -> v.codes(2), v -> v.codes(-1), v -> v.codes(0));
        leaves(15, "cost", RefusedTest::busy, v -> v.cost(4, 0, 0), v -> v.cost(0, 0, 4), v -> v.cost(0, 0, 0));
        leaves(16, "path", RefusedTest::busy, v -> v.path(8, 0, 0, 0), v -> v.path(0, 0, 0, 4), v -> v.path(7, 0, 0, 0));
        leaves(17, "sum", RefusedTest::busy, v -> v.sum(4, 0, 0), v -> v.sum(0, 0, 4), v -> v.sum(0, 0, 0));
        leaves(18, "shift", RefusedTest::busy, v -> v.shift(2, 0, 0), v -> v.shift(0, 4, 0), v -> v.shift(0, 0, 0));
        leaves(19, "margin", RefusedTest::busy, v -> v.margin(4, 0), v -> v.margin(0, 3), v -> v.margin(0, 0));
        leaves(20, "kind", RefusedTest::busy, v -> v.kind(2, 0, 0), v -> v.kind(0, 4, 0), v -> v.kind(0, 0, 0));
        leaves(21, "kinds", RefusedTest::busy, v -> v.kinds(2, 0), v -> v.kinds(0, 3), v -> v.kinds(0, 0));
        leaves(22, "piece", RefusedTest::busy, v -> v.piece(2, 0, 0), v -> v.piece(0, 4, 0), v -> v.piece(0, 0, 0));
        leaves(23, "pieces", RefusedTest::busy, v -> v.pieces(2, 0), v -> v.pieces(0, 2), v -> v.pieces(0, 0));
        leaves(24, "pieceAt", RefusedTest::busy, v -> v.pieceAt(2, 0, 0), v -> v.pieceAt(0, 99, 0),
            v -> v.pieceAt(0, 0, 8), v -> v.pieceAt(0, 0, 0));
        leaves(25, "fine", RefusedTest::busy, v -> v.fine(4, 0), v -> v.fine(0, 3), v -> v.fine(0, 0));
        leaves(26, "ground", RefusedTest::busy, v -> v.ground(3), v -> v.ground(-1), v -> v.ground(0));
        leaves(27, "votes", RefusedTest::busy, v -> v.votes(25, 0), v -> v.votes(0, 9), v -> v.votes(0, 0));
        leaves(28, "between", RefusedTest::busy, v -> v.between(5, 0, 0), v -> v.between(0, 4, 0), v -> v.between(2, 0, 0));
        leaves(29, "holes", RefusedTest::busy, v -> v.holes(5), v -> v.holes(-1), v -> v.holes(2));
        leaves(30, "filled", RefusedTest::busy, v -> v.filled(2, 0, 0), v -> v.filled(0, 4, 0), v -> v.filled(0, 0, 0));
        leaves(31, "depth", RefusedTest::busy, v -> v.depth(4, 0), v -> v.depth(0, 3), v -> v.depth(0, 0));
        leaves(32, "row", RefusedTest::busy, v -> v.row(3, 0), v -> v.row(0, 4), v -> v.row(0, -2), v -> v.row(0, -1));
        leaves(33, "energy", RefusedTest::busy, v -> v.energy(3), v -> v.energy(-1), v -> v.energy(2));
        leaves(34, "wrong", RefusedTest::busy, v -> v.wrong(8, 0), v -> v.wrong(0, 3), v -> v.wrong(0, 0));
        leaves(38, "count", RefusedTest::busy, v -> v.count(13), v -> v.count(-1), v -> v.count(0));
    }

    private static void actsAndImages() {
        Made undone = () -> {
            Counted v = busy();
            for (int i = 0; i < 4; i++) {
                v.undo();
            }
            v.image(1);
            v.back(0);
            return v;
        };
        leaves(35, "undo without ACTS", undone, v -> v.undo());
        leaves(36, "image", RefusedTest::busy, v -> v.image(-1), v -> v.image(2), v -> v.image(FAR_OUT));
        leaves(37, "back", RefusedTest::busy, v -> v.back(-1), v -> v.back(2), v -> v.back(FAR_BELOW));
        leaves(37, "back of an IMAGE that was not made", RefusedTest::busy, v -> v.back(1));
    }

    public static void main(String[] args) {
        tapeAndText();
        pictures();
        layers();
        askings();
        actsAndImages();
        CHECK.end();
    }
}
