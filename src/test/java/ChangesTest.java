import java.util.function.ToIntFunction;

/**
 * Answers go by what is now: whatever was asked before a change, and however large the picture was,
 * an object answers as one does that was never asked before; and each call may be the first one.
 */
public final class ChangesTest {
    private static final Check CHECK = new Check();

    private interface Made {
        Counted anew();
    }

    private interface Change {
        void on(Counted v);
    }

    private ChangesTest() {
    }

    private static Counted small() {
        Counted v = Rows.tell(";most 4", "01a2/3b45/c607", "1a25/b451/6078");
        v.layer(0, 0, 4, 3, 1, 7);
        v.image(0);
        v.layer(1, 0, 2, 2, 3, 9);
        v.value(0, 1, 1, 5);
        v.image(1);
        v.value(1, 2, 2, 0);
        return v;
    }

    private static Counted large() {
        Counted v = new Counted();
        v.size(16, 12);
        v.tune(0, 7);
        v.tune(1, 2);
        v.layer(-3, -3, 40, 40, 2, 5);
        v.layer(2, 1, 9, 9, 5, 77);
        v.layer(5, 4, 9, 9, 7, 123456);
        v.draw();
        return v;
    }

    /** Two PIECES of about half of the picture each. */
    private static Counted halves() {
        Counted v = new Counted();
        v.size(16, 12);
        v.layer(-20, -20, 40, 26, 0, 5);
        v.layer(-20, 6, 40, 20, 3, 77);
        v.tune(2, 6);
        v.draw();
        return v;
    }

    private static void askOnce(Counted v) {
        for (int way = 0; way < 8; way++) {
            v.path(way, 1, 1, 1);
        }
        v.code(0, 1, 1);
        v.same(1, 1, 1);
        v.codes(0);
        v.cost(1, 1, 1);
        v.sum(1, 1, 1);
        v.shift(1, 1, 1);
        v.margin(1, 1);
        v.kinds(0, 0);
        v.piece(1, 1, 1);
        v.pieceAt(0, 0, 7);
        v.pieceAt(1, 0, 7);
        v.fine(1, 1);
        v.ground(0);
        v.votes(1, 1);
        v.holes(2);
        v.filled(1, 1, 1);
        v.row(1, 1);
        v.energy(0);
        v.energy(1);
        v.energy(2);
        v.wrong(0, 0);
        v.truth(1, 1, 1);
    }

    private static String everything(Counted v) {
        StringBuilder told = new StringBuilder();
        for (int view = 0; view < 2; view++) {
            int k = view;
            told.append(Rows.shifts(v, k)).append(' ').append(Rows.kinds(v, k)).append(' ');
            told.append(Rows.filled(v, k)).append(' ').append(Rows.pieces(v, k)).append('\n');
            told.append(v.codes(k)).append(' ').append(v.pieces(k, 0)).append(' ').append(v.pieces(k, 1)).append(' ');
            for (int i = 0; i < 3; i++) {
                told.append(v.kinds(k, i)).append(' ').append(v.pieceAt(k, i, 0)).append(' ');
                told.append(v.pieceAt(k, i, 7)).append(' ').append(v.same(k, i, 2)).append(' ');
            }
        }
        for (int i = 0; i < 3; i++) {
            told.append(v.energy(i)).append(' ').append(v.ground(i)).append(' ').append(v.wrong(0, i)).append(' ');
            told.append(v.row(i, -1)).append(' ').append(v.row(i, 0)).append(' ').append(v.row(i, 2)).append(' ');
            told.append(v.margin(i, 1)).append(' ').append(v.fine(i, 1)).append(' ').append(v.depth(i, 2)).append(' ');
            told.append(v.code(0, i, 0)).append(' ').append(v.code(1, i, 1)).append(' ');
        }
        for (int i = 0; i < 8; i++) {
            told.append(v.path(i, 1, 1, 0)).append(' ').append(v.path(7 - i, 2, 2, 1)).append(' ');
            told.append(v.votes(i, i)).append(' ').append(v.sum(i % 3, i / 3, 1)).append(' ');
        }
        for (int t = 0; t < 5; t++) {
            told.append(v.holes(t)).append(' ').append(v.between(t, 2, 1)).append(' ');
        }
        return told.append(v.truth(1, 1, 0)).append(v.truth(1, 1, 1)).toString();
    }

    private static void seen(int promise, String name, Made made, Change change) {
        CHECK.sentence(promise, name + " is seen by every call", () -> {
            Counted first = made.anew();
            askOnce(first);
            change.on(first);
            Counted second = made.anew();
            change.on(second);
            CHECK.due(name, everything(first), everything(second));
        });
    }

    /** As seen(), and something is another one by it: else nothing could be seen. */
    private static void changes(int promise, String name, Change change) {
        CHECK.sentence(promise, name + " changes something", () -> {
            Counted changed = small();
            change.on(changed);
            CHECK.due(name + " changes nothing", everything(small()).equals(everything(changed)), false);
        });
        seen(promise, name, ChangesTest::small, change);
    }

    private static void smallChanges() {
        changes(3, "text", v -> Words.read(v, "size 3 3;left 1 0f0;right 1 f00"));
        changes(4, "size", v -> v.size(4, 3));
        changes(5, "value of LEFT", v -> v.value(0, 2, 1, 0));
        changes(5, "value of RIGHT", v -> v.value(1, 1, 1, 15));
        int[] other = {2, 2, 5, 60, 5, 0, 50, 7};
        for (int what = 0; what < 8; what++) {
            int k = what;
            changes(6, "tune " + what, v -> v.tune(k, other[k]));
        }
        changes(7, "layer", v -> v.layer(0, 0, 2, 3, 2, 9));
        changes(8, "clear", v -> v.clear());
        changes(9, "draw", v -> v.draw());
        changes(35, "undo", v -> v.undo());
        changes(37, "back 0", v -> v.back(0));
        changes(37, "back 1", v -> v.back(1));
    }

    private static void toAndFro() {
        seen(6, "tune to less and back", ChangesTest::small, v -> {
            v.tune(0, 1);
            v.path(3, 0, 0, 0);
            v.tune(0, 4);
        });
        seen(35, "undo of tune", ChangesTest::small, v -> {
            v.tune(0, 1);
            v.shift(0, 0, 0);
            v.undo();
        });
        seen(37, "back to what is asked already", ChangesTest::small, v -> {
            v.image(0);
            v.size(3, 3);
            v.shift(0, 0, 0);
            v.back(0);
        });
    }

    private static void fromTheLargest() {
        seen(3, "text of the least", ChangesTest::large, v -> Words.read(v, "size 3 3;left 1 0f0;right 1 f00"));
        seen(4, "size of the least", ChangesTest::large, v -> v.size(3, 3));
        seen(9, "draw of the least", ChangesTest::large, v -> {
            v.size(3, 3);
            v.draw();
        });
        seen(9, "draw of a low one", ChangesTest::large, v -> {
            v.size(5, 3);
            v.tune(0, 2);
            v.draw();
        });
        seen(9, "draw of a narrow one", ChangesTest::large, v -> {
            v.size(3, 5);
            v.draw();
        });
        seen(4, "size, where two PIECES were", ChangesTest::halves, v -> v.size(3, 3));
        seen(6, "tune by fewer", ChangesTest::large, v -> {
            v.tune(0, 1);
            v.tune(1, 1);
            v.size(4, 4);
            v.draw();
        });
    }

    private static void first(int promise, String name, ToIntFunction<Counted> call) {
        CHECK.sentence(promise, name + " may be the first call", () -> {
            Counted asked = small();
            askOnce(asked);
            CHECK.due(name, call.applyAsInt(small()), call.applyAsInt(asked));
            Counted drawn = large();
            drawn.size(5, 4);
            drawn.draw();
            askOnce(drawn);
            Counted bare = large();
            bare.size(5, 4);
            bare.draw();
            CHECK.due(name + ", drawn", call.applyAsInt(bare), call.applyAsInt(drawn));
        });
    }

    private static void firstCalls() {
        first(12, "code", v -> v.code(1, 2, 1));
        first(13, "same", v -> v.same(0, 0, 0));
        first(14, "codes", v -> v.codes(1));
        first(15, "cost", v -> v.cost(3, 2, 1));
        first(16, "path", v -> v.path(5, 1, 1, 1));
        first(17, "sum", v -> v.sum(2, 1, 1));
        first(18, "shift", v -> v.shift(0, 3, 1) * 8 + v.shift(1, 0, 1));
        first(19, "margin", v -> v.margin(3, 1));
        first(20, "kind", v -> v.kind(0, 0, 1) * 4 + v.kind(1, 3, 1));
        first(21, "kinds", v -> v.kinds(0, 0));
        first(22, "piece", v -> v.piece(0, 3, 1));
        first(23, "pieces", v -> v.pieces(0, 1));
        first(24, "pieceAt", v -> v.pieceAt(0, 0, 7));
        first(25, "fine", v -> v.fine(3, 1));
        first(26, "ground", v -> v.ground(2));
        first(27, "votes", v -> v.votes(8, 0));
        first(28, "between", v -> v.between(4, 1, 1) + 16 * v.between(4, 2, 1) + 256 * v.between(4, 0, 2));
        first(29, "holes", v -> v.holes(2));
        first(30, "filled", v -> v.filled(0, 3, 1) + 8 * v.filled(1, 0, 2));
        first(31, "depth", v -> v.depth(3, 1));
        first(32, "row", v -> v.row(1, -1));
        first(33, "energy of FILLED", v -> v.energy(0));
        first(33, "energy of SHIFTS", v -> v.energy(1));
        first(33, "energy of rows", v -> v.energy(2));
        first(34, "wrong", v -> v.wrong(0, 0));
    }

    /** Of a new object, before any ACT: each PLACE's CODE is 0, and d below x costs nothing. */
    private static void ofANewObject() {
        CHECK.due("code", new Counted().code(0, 0, 0), 0);
        CHECK.due("same", new Counted().same(0, 0, 0), 96);
        CHECK.due("codes", new Counted().codes(1), 1);
        CHECK.due("cost beyond the edge", new Counted().cost(0, 0, 1), 8);
        CHECK.due("cost", new Counted().cost(3, 5, 3), 0);
        for (int way = 0; way < 8; way++) {
            CHECK.due("path beyond the edge", new Counted().path(way, 0, 0, 1) >= 8, true);
        }
        CHECK.due("sum", new Counted().sum(7, 5, 0), 0);
        CHECK.due("sum beyond the edge", new Counted().sum(0, 0, 1) >= 64, true);
        CHECK.due("shift", new Counted().shift(1, 7, 5), 0);
        CHECK.due("kind", new Counted().kind(0, 7, 5), 0);
        CHECK.due("kinds", new Counted().kinds(1, 0), 48);
        CHECK.due("piece", new Counted().piece(1, 7, 5), 48);
        CHECK.due("pieces", new Counted().pieces(0, 0), 1);
        CHECK.due("pieceAt", new Counted().pieceAt(1, 0, 5), 7);
        CHECK.due("fine", new Counted().fine(7, 5), 0);
        CHECK.due("ground", new Counted().ground(2), 48);
        CHECK.due("votes", new Counted().votes(3, 0), 48);
        CHECK.due("between", new Counted().between(2, 7, 5), 0);
        CHECK.due("holes", new Counted().holes(2), 0);
        CHECK.due("filled", new Counted().filled(1, 7, 5), 0);
        CHECK.due("depth", new Counted().depth(7, 5), -2);
        CHECK.due("row", new Counted().row(5, -1), 0);
        CHECK.due("wrong", new Counted().wrong(0, 0), 0);
    }

    public static void main(String[] args) {
        smallChanges();
        toAndFro();
        fromTheLargest();
        firstCalls();
        CHECK.sentence(1, "8 by 6, all 0: each call's first answer", ChangesTest::ofANewObject);
        CHECK.end();
    }
}
