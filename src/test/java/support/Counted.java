/**
 * A TwoViews whose calls are counted: the document promises nothing after the 512th, so that no
 * test may ask for more of one object.
 */
final class Counted {
    static final int CALLS = 512;

    private final TwoViews views = new TwoViews();
    private int calls = 0;

    int calls() {
        return calls;
    }

    private TwoViews once() {
        calls++;
        if (calls > CALLS) {
            throw new IllegalStateException("a test makes more than 512 calls on one object");
        }
        return views;
    }

    int feed(int a, int b, int c, int d, int e) {
        return once().feed(a, b, c, d, e);
    }

    int text(int n) {
        return once().text(n);
    }

    boolean size(int w, int h) {
        return once().size(w, h);
    }

    int value(int view, int x, int y, int v) {
        return once().value(view, x, y, v);
    }

    int tune(int what, int v) {
        return once().tune(what, v);
    }

    int layer(int x, int y, int w, int h, int shift, int seed) {
        return once().layer(x, y, w, h, shift, seed);
    }

    int clear() {
        return once().clear();
    }

    int draw() {
        return once().draw();
    }

    int truth(int x, int y, int what) {
        return once().truth(x, y, what);
    }

    int at(int view, int x, int y) {
        return once().at(view, x, y);
    }

    int code(int view, int x, int y) {
        return once().code(view, x, y);
    }

    int same(int view, int x, int y) {
        return once().same(view, x, y);
    }

    int codes(int view) {
        return once().codes(view);
    }

    int cost(int x, int y, int shift) {
        return once().cost(x, y, shift);
    }

    int path(int way, int x, int y, int shift) {
        return once().path(way, x, y, shift);
    }

    int sum(int x, int y, int shift) {
        return once().sum(x, y, shift);
    }

    int shift(int view, int x, int y) {
        return once().shift(view, x, y);
    }

    int margin(int x, int y) {
        return once().margin(x, y);
    }

    int kind(int view, int x, int y) {
        return once().kind(view, x, y);
    }

    int kinds(int view, int kind) {
        return once().kinds(view, kind);
    }

    int piece(int view, int x, int y) {
        return once().piece(view, x, y);
    }

    int pieces(int view, int what) {
        return once().pieces(view, what);
    }

    int pieceAt(int view, int i, int what) {
        return once().pieceAt(view, i, what);
    }

    int fine(int x, int y) {
        return once().fine(x, y);
    }

    int ground(int what) {
        return once().ground(what);
    }

    int votes(int p, int q) {
        return once().votes(p, q);
    }

    int between(int t, int x, int y) {
        return once().between(t, x, y);
    }

    int holes(int t) {
        return once().holes(t);
    }

    int filled(int view, int x, int y) {
        return once().filled(view, x, y);
    }

    int depth(int x, int y) {
        return once().depth(x, y);
    }

    int row(int y, int x) {
        return once().row(y, x);
    }

    int energy(int what) {
        return once().energy(what);
    }

    int wrong(int by, int what) {
        return once().wrong(by, what);
    }

    int undo() {
        return once().undo();
    }

    boolean image(int i) {
        return once().image(i);
    }

    boolean back(int i) {
        return once().back(i);
    }

    int count(int what) {
        return once().count(what);
    }
}
