import java.util.NoSuchElementException;

/** Long runs of all calls, made by a fixed row of numbers: TwoViews answers as Plain does. */
public final class AlikeTest {
    private static final int RUNS = 340;
    /** What one round of all() may ask at most. */
    private static final int ROUND = 40;
    private static final int THROWN = Integer.MIN_VALUE + 77;
    private static final String[] CALL_NAMES = {
        "feed", "text", "size", "value", "tune", "layer", "clear", "draw", "truth", "at", "code",
        "same", "codes", "cost", "path", "sum", "shift", "margin", "kind", "kinds", "piece",
        "pieces", "pieceAt", "fine", "ground", "votes", "between", "holes", "filled", "depth",
        "row", "energy", "wrong", "undo", "image", "back", "count"
    };

    private final Check check;
    private final int run;
    private long state;
    private final Counted views = new Counted();
    private final Plain plain = new Plain();
    private final StringBuilder story = new StringBuilder();

    private AlikeTest(Check check, int run) {
        this.check = check;
        this.run = run;
        state = run * 1000003L + 17;
    }

    private int below(int n) {
        state = state * 6364136223846793005L + 1442695040888963407L;
        return (int) ((state >>> 33) % n);
    }

    /** Mostly within bounds, now and then just beyond them, seldom far beyond. */
    private int about(int low, int high) {
        int luck = below(60);
        if (luck == 0) {
            return low - 1;
        }
        if (luck == 1) {
            return high + 1;
        }
        if (luck == 2) {
            return new int[] {Integer.MIN_VALUE, Integer.MAX_VALUE, -2, 1000}[below(4)];
        }
        return low + below(high - low + 1);
    }

    private int x() {
        return about(0, plain.count(0) - 1);
    }

    private int y() {
        return about(0, plain.count(1) - 1);
    }

    private int d() {
        return about(0, plain.count(2));
    }

    private int view() {
        return about(0, 1);
    }

    private int[] arguments(String name) {
        switch (name) {
            case "value": return new int[] {view(), x(), y(), about(0, 15)};
            case "tune": return tuning();
            case "layer": return layering();
            case "truth": return new int[] {x(), y(), about(0, 1)};
            case "at": case "code": case "same": case "shift": case "kind": case "piece":
            case "filled": return new int[] {view(), x(), y()};
            case "codes": return new int[] {view()};
            case "cost": case "sum": return new int[] {x(), y(), d()};
            case "path": return new int[] {about(0, 7), x(), y(), d()};
            case "margin": case "fine": case "depth": return new int[] {x(), y()};
            case "kinds": return new int[] {view(), about(0, 2)};
            case "pieces": return new int[] {view(), about(0, 1)};
            case "pieceAt": return new int[] {view(), about(0, below(3) * 2), about(0, 7)};
            case "ground": case "energy": return new int[] {about(0, 2)};
            case "votes": return new int[] {about(0, 8 * plain.count(2)), about(0, 8)};
            case "between": return new int[] {about(0, 4), x(), y()};
            case "holes": return new int[] {about(0, 4)};
            case "row": return new int[] {y(), about(-1, plain.count(0) - 1)};
            case "wrong": return new int[] {below(2) == 0 ? 0 : about(0, 7), about(0, 2)};
            case "image": case "back": return new int[] {about(0, 1)};
            case "count": return new int[] {about(0, 12)};
            case "size": return new int[] {about(3, run % 4 == 0 ? 16 : 7), about(3, run % 4 == 0 ? 12 : 5)};
            default: return new int[0];
        }
    }

    private int[] tuning() {
        int what = about(0, 7);
        int[] high = {7, 2, 60, 60, 255, 3, 50, 999};
        int[] low = {1, 1, 0, 0, 1, 0, 1, 1};
        if (what < 0 || what > 7) {
            return new int[] {what, 1};
        }
        int top = what == 6 && below(4) != 0 ? 6 : high[what];
        top = (what == 2 || what == 3) && below(3) != 0 ? 9 : top;
        return new int[] {what, about(low[what], top)};
    }

    private int[] layering() {
        int luck = below(3);
        int px = luck == 0 ? about(-20, 20) : about(-2, plain.count(0));
        int py = luck == 0 ? about(-20, 20) : about(-2, plain.count(1));
        int w = luck == 0 ? about(1, 40) : about(1, 8);
        int h = luck == 0 ? about(1, 40) : about(1, 6);
        return new int[] {px, py, w, h, d(), below(2) == 0 ? below(9) : (int) state};
    }

    private int ofViews(String name, int[] a) {
        switch (name) {
            case "size": return views.size(a[0], a[1]) ? 1 : 0;
            case "value": return views.value(a[0], a[1], a[2], a[3]);
            case "tune": return views.tune(a[0], a[1]);
            case "layer": return views.layer(a[0], a[1], a[2], a[3], a[4], a[5]);
            case "clear": return views.clear();
            case "draw": return views.draw();
            case "truth": return views.truth(a[0], a[1], a[2]);
            case "at": return views.at(a[0], a[1], a[2]);
            case "code": return views.code(a[0], a[1], a[2]);
            case "same": return views.same(a[0], a[1], a[2]);
            case "codes": return views.codes(a[0]);
            case "cost": return views.cost(a[0], a[1], a[2]);
            case "path": return views.path(a[0], a[1], a[2], a[3]);
            case "sum": return views.sum(a[0], a[1], a[2]);
            case "shift": return views.shift(a[0], a[1], a[2]);
            case "margin": return views.margin(a[0], a[1]);
            case "kind": return views.kind(a[0], a[1], a[2]);
            case "kinds": return views.kinds(a[0], a[1]);
            case "piece": return views.piece(a[0], a[1], a[2]);
            case "pieces": return views.pieces(a[0], a[1]);
            case "pieceAt": return views.pieceAt(a[0], a[1], a[2]);
            case "fine": return views.fine(a[0], a[1]);
            case "ground": return views.ground(a[0]);
            case "votes": return views.votes(a[0], a[1]);
            case "between": return views.between(a[0], a[1], a[2]);
            case "holes": return views.holes(a[0]);
            case "filled": return views.filled(a[0], a[1], a[2]);
            case "depth": return views.depth(a[0], a[1]);
            case "row": return views.row(a[0], a[1]);
            case "energy": return views.energy(a[0]);
            case "wrong": return views.wrong(a[0], a[1]);
            case "undo": return views.undo();
            case "image": return views.image(a[0]) ? 1 : 0;
            case "back": return views.back(a[0]) ? 1 : 0;
            default: return views.count(a[0]);
        }
    }

    private int ofPlain(String name, int[] a) {
        switch (name) {
            case "size": return plain.size(a[0], a[1]) ? 1 : 0;
            case "value": return plain.value(a[0], a[1], a[2], a[3]);
            case "tune": return plain.tune(a[0], a[1]);
            case "layer": return plain.layer(a[0], a[1], a[2], a[3], a[4], a[5]);
            case "clear": return plain.clear();
            case "draw": return plain.draw();
            case "truth": return plain.truth(a[0], a[1], a[2]);
            case "at": return plain.at(a[0], a[1], a[2]);
            case "code": return plain.code(a[0], a[1], a[2]);
            case "same": return plain.same(a[0], a[1], a[2]);
            case "codes": return plain.codes(a[0]);
            case "cost": return plain.cost(a[0], a[1], a[2]);
            case "path": return plain.path(a[0], a[1], a[2], a[3]);
            case "sum": return plain.sum(a[0], a[1], a[2]);
            case "shift": return plain.shift(a[0], a[1], a[2]);
            case "margin": return plain.margin(a[0], a[1]);
            case "kind": return plain.kind(a[0], a[1], a[2]);
            case "kinds": return plain.kinds(a[0], a[1]);
            case "piece": return plain.piece(a[0], a[1], a[2]);
            case "pieces": return plain.pieces(a[0], a[1]);
            case "pieceAt": return plain.pieceAt(a[0], a[1], a[2]);
            case "fine": return plain.fine(a[0], a[1]);
            case "ground": return plain.ground(a[0]);
            case "votes": return plain.votes(a[0], a[1]);
            case "between": return plain.between(a[0], a[1], a[2]);
            case "holes": return plain.holes(a[0]);
            case "filled": return plain.filled(a[0], a[1], a[2]);
            case "depth": return plain.depth(a[0], a[1]);
            case "row": return plain.row(a[0], a[1]);
            case "energy": return plain.energy(a[0]);
            case "wrong": return plain.wrong(a[0], a[1]);
            case "undo": return plain.undo();
            case "image": return plain.image(a[0]) ? 1 : 0;
            case "back": return plain.back(a[0]) ? 1 : 0;
            default: return plain.count(a[0]);
        }
    }

    private int answer(boolean ofPlain, String name, int[] a) {
        try {
            return ofPlain ? ofPlain(name, a) : ofViews(name, a);
        } catch (NoSuchElementException e) {
            return THROWN;
        }
    }

    private void compare(String name, int[] a) {
        StringBuilder call = new StringBuilder(name).append('(');
        for (int i = 0; i < a.length; i++) {
            call.append(i == 0 ? "" : ", ").append(a[i]);
        }
        call.append(')');
        int want = answer(true, name, a);
        story.append(call).append(" = ").append(want).append('\n');
        check.due("run " + run + ": " + call, answer(false, name, a), want);
    }

    private void feed(String bytes) {
        int[] n = Words.pack(bytes);
        for (int i = 0; i < n.length; i += 5) {
            int want = plain.feed(n[i], n[i + 1], n[i + 2], n[i + 3], n[i + 4]);
            int got = views.feed(n[i], n[i + 1], n[i + 2], n[i + 3], n[i + 4]);
            check.due("run " + run + ": feed", got, want);
        }
    }

    private String number(int low, int high) {
        int n = Math.max(0, below(40) == 0 ? about(low, high) : low + below(high - low + 1));
        return (below(9) == 0 ? "0" : "") + n;
    }

    private String blank() {
        return below(3) == 0 ? new String[] {" ", "\n", "  \n "}[below(3)] : "";
    }

    private String line(int w, int h) {
        switch (below(9)) {
            case 0: return "most " + number(1, 7);
            case 1: return "window " + number(1, 2);
            case 2: int a = below(30); return "penalty " + number(a, a) + " " + number(a, 60);
            case 3: return "paths " + number(1, 255);
            case 4: return "slack " + number(0, 3);
            default:
                StringBuilder t = new StringBuilder(below(2) == 0 ? "left " : "right ");
                t.append(number(0, h - 1)).append(' ');
                int signs = below(40) == 0 ? w - 1 + below(3) : w;
                for (int i = 0; i < signs; i++) {
                    t.append("0123456789abcdefg".charAt(below(120) == 0 ? 16 : below(16)));
                }
                return t.toString();
        }
    }

    private void text() {
        int w = 3 + below(run % 4 == 0 ? 14 : 5);
        int h = 3 + below(run % 4 == 0 ? 10 : 3);
        StringBuilder t = new StringBuilder(blank()).append("size ").append(w).append(' ').append(h);
        for (int i = below(14); i > 0; i--) {
            t.append(blank()).append(';').append(blank()).append(line(w, h));
        }
        t.append(blank());
        for (int i = below(3) == 0 ? 1 + below(2) : 0; i > 0; i--) {
            String signs = "; \n09afgzA-~" + (char) 0 + (char) 200;
            t.setCharAt(below(t.length()), signs.charAt(below(signs.length())));
        }
        int length = t.length();
        feed(t.toString());
        int n = below(12) == 0 ? about(0, Math.min(length, 700)) : Math.min(length, 700);
        story.append(t).append('\n');
        check.due("run " + run + ": text(" + n + ") of " + t, views.text(n), plain.text(n));
    }

    private void all() {
        while (views.calls() + ROUND <= Counted.CALLS && check.wrong() == 0) {
            int luck = below(100);
            String name = CALL_NAMES[2 + below(CALL_NAMES.length - 2)];
            if (luck < 4) {
                text();
            } else if (luck < 5) {
                feed("; left 0 000");
            } else if (luck < 7) {
                compare("clear", arguments("clear"));
                for (int k = below(8); k > 0; k--) {
                    compare("layer", arguments("layer"));
                }
                compare("draw", arguments("draw"));
            } else if (luck < 10) {
                compare("undo", arguments("undo"));
            } else if (!(name.equals("size") && below(3) != 0)) {
                compare(name, arguments(name));
            }
        }
        if (check.wrong() != 0) {
            System.out.println(story);
        }
    }

    public static void main(String[] args) {
        Check check = new Check();
        for (int run = 0; run < RUNS && check.wrong() == 0; run++) {
            new AlikeTest(check, run).all();
        }
        check.end();
    }
}
