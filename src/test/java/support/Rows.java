/** Small pictures told as rows, 010/111/000, and answers about all their places told likewise. */
final class Rows {
    /**
     * Steps cost nothing and one way counts: then SUMS are COSTS, and each place's SHIFT can be
     * worked out by hand.
     */
    static final String PLAIN = ";penalty 0 0;paths 1";

    interface Place {
        int answer(int x, int y);
    }

    private Rows() {
    }

    static Counted tell(String lines, String left, String right) {
        Counted v = new Counted();
        String[] l = left.split("/");
        StringBuilder text = new StringBuilder("size ").append(l[0].length()).append(' ').append(l.length);
        text.append(lines);
        add(text, ";left ", l);
        add(text, ";right ", right.split("/"));
        if (Words.read(v, text.toString()) < 0) {
            throw new IllegalStateException("no text: " + text);
        }
        return v;
    }

    private static void add(StringBuilder text, String word, String[] rows) {
        for (int y = 0; y < rows.length; y++) {
            text.append(word).append(y).append(' ').append(rows[y]);
        }
    }

    /** One sign for each answer: digits and small letters, - for NONE, _ for -2, ? for others. */
    static String of(Counted v, Place asked) {
        int w = v.count(0);
        int h = v.count(1);
        StringBuilder rows = new StringBuilder();
        for (int y = 0; y < h; y++) {
            rows.append(y == 0 ? "" : "/");
            for (int x = 0; x < w; x++) {
                int n = asked.answer(x, y);
                rows.append(n < -2 || n > 35 ? '?' : "_-0123456789abcdefghijklmnopqrstuvwxyz".charAt(n + 2));
            }
        }
        return rows.toString();
    }

    static String shifts(Counted v, int view) {
        return of(v, (x, y) -> v.shift(view, x, y));
    }

    static String kinds(Counted v, int view) {
        return of(v, (x, y) -> v.kind(view, x, y));
    }

    static String filled(Counted v, int view) {
        return of(v, (x, y) -> v.filled(view, x, y));
    }

    static String pieces(Counted v, int view) {
        return of(v, (x, y) -> v.piece(view, x, y));
    }

    static String values(Counted v, int view) {
        return of(v, (x, y) -> v.at(view, x, y));
    }
}
