/** The edges of KINDS, PIECES, FILLED, FINE, GROUND, BETWEEN, DEPTH: promises 20 to 31 and 34. */
public final class DepthBoundsTest {
    private static final int NONE = TwoViews.NONE;
    private static final int FAR_OUT = Integer.MAX_VALUE;
    private static final int FAR_BELOW = Integer.MIN_VALUE;
    private static final Check CHECK = new Check();

    private DepthBoundsTest() {
    }

    private static void due(String call, long got, long want) {
        CHECK.due(call, got, want);
    }

    private static void due(String call, String got, String want) {
        CHECK.due(call, got, want);
    }

    private static Counted plain(String lines, String left, String right) {
        return Rows.tell(lines + Rows.PLAIN, left, right);
    }

    private static void shifts(Counted v, String left, String right) {
        due("SHIFTS of LEFT", Rows.shifts(v, 0), left);
        due("SHIFTS of RIGHT", Rows.shifts(v, 1), right);
    }

    private static void kinds(String when, Counted v, String left, String right) {
        due(when + ", KINDS of LEFT", Rows.kinds(v, 0), left);
        due(when + ", KINDS of RIGHT", Rows.kinds(v, 1), right);
    }

    private static void filled(Counted v, String left, String right) {
        due("FILLED of LEFT", Rows.filled(v, 0), left);
        due("FILLED of RIGHT", Rows.filled(v, 1), right);
    }

    /** RIGHT has what LEFT has MOST to its right; textures of layers are too much alike for that. */
    private static Counted wall(int most) {
        String signs = "3243f6a8885a308d313198a2e03707344a4093822299f31d0082efa98ec4e6c89452821e638d01377be5";
        StringBuilder left = new StringBuilder();
        StringBuilder right = new StringBuilder();
        for (int y = 0; y < 3; y++) {
            int from = 24 * y;
            left.append(y == 0 ? "" : "/").append(signs, from, from + 16);
            right.append(y == 0 ? "" : "/").append(signs, from + most, from + most + 16);
        }
        return Rows.tell(";most " + most, left.toString(), right.toString());
    }

    // 20: kind

    private static void slackOne() {
        Counted v = plain(";most 4;slack 1", "100/001/101", "000/001/101");
        shifts(v, "000/000/000", "100/000/000");
        kinds("1 apart, SLACK 1", v, "000/000/000", "000/000/000");
        v.tune(5, 0);
        // RIGHT 0 sees LEFT 1 by 1, 1 apart; LEFT 0 has a SHIFT of 0, so that RIGHT 0 is UNLIKE
        kinds("1 apart, SLACK 0", v, "200/000/000", "100/000/000");
    }

    private static void slackTwo() {
        Counted v = plain(";most 4;slack 2", "010/001/100", "101/100/001");
        shifts(v, "011/002/001", "010/200/100");
        kinds("2 apart, SLACK 2", v, "000/000/000", "000/000/000");
        v.tune(5, 1);
        // LEFT 0 sees RIGHT 0 of 2, RIGHT 2 sees LEFT 2 of 2: nobody else points at them
        kinds("2 apart, SLACK 1", v, "000/200/000", "000/002/000");
    }

    private static void slackThree() {
        Counted v = plain(";most 5;slack 3", "0010/1110/0011", "0011/0110/1011");
        shifts(v, "0002/0000/0000", "0000/3000/0000");
        kinds("3 apart, SLACK 3", v, "0000/0000/0000", "0000/0000/0000");
        v.tune(5, 2);
        kinds("3 apart, SLACK 2", v, "0000/2000/0000", "0000/1000/0000");
        v.tune(5, 1);
        kinds("2 apart, SLACK 1", v, "0001/2000/0000", "0002/1000/0000");
        Counted four = plain(";most 4;slack 3", "10001/11111/01011", "01010/01100/00010");
        shifts(four, "01010/00000/00010", "13010/40110/01000");
        kinds("4 apart, SLACK 3", four, "00000/20000/00000", "00000/10000/00000");
    }

    private static void seenOutsideOfThePicture() {
        Counted v = Rows.tell(";most 1;penalty 4 6;paths 2;slack 0", "001/000/010", "000/000/101");
        shifts(v, "000/000/111", "000/000/110");
        // LEFT 0 by 1 is not there, and RIGHT 0 has 1; RIGHT 2 sees LEFT 2 of 1
        kinds("HIDDEN", v, "000/000/200", "000/000/002");
        v.tune(5, 3);
        kinds("however much SLACK", v, "000/000/200", "000/000/000");
        Counted u = Rows.tell(";most 3;penalty 5 11;paths 112;slack 1", "10210/22323/10100", "33021/20321/23223");
        shifts(u, "00010/10012/01101", "12200/00110/11100");
        // LEFT 0 of row 1 by 1 is not there, but RIGHT 0 has 0
        due("UNLIKE", u.kind(0, 0, 1), 1);
        due("all", Rows.kinds(u, 0), "01200/10000/00000");
    }

    /** By x itself a PLACE of LEFT is seen at 0, which is there. */
    private static void seenAtTheFirstPlace() {
        Counted v = plain(";most 7;slack 0", "01100011/10111111/00100100", "11000011/10010010/00110011");
        due("SHIFT", v.shift(0, 7, 1), 7);
        due("SHIFT of RIGHT", v.shift(1, 0, 1), 7);
        due("SURE", v.kind(0, 7, 1), 0);
        due("SURE in RIGHT", v.kind(1, 0, 1), 0);
    }

    /** RIGHT's last PLACE can be pointed at by 0 alone, and LEFT's first one. */
    private static void pointedAt() {
        Counted v = plain(";most 2;slack 0", "101/110/000", "010/011/001");
        shifts(v, "010/012/001", "100/210/000");
        kinds("row by row", v, "200/220/001", "020/022/002");
        Counted w = plain(";most 5;slack 0", "001/101/100", "101/100/111");
        shifts(w, "000/000/012", "000/100/100");
        kinds("row by row", w, "000/200/201", "000/100/022");
    }

    /** LEFT 2 of row 1 is pointed at by RIGHT 0 alone, by 2; RIGHT 1 of row 2 by LEFT 3, by 2. */
    private static void pointedAtByMost() {
        Counted v = plain(";most 2;slack 0", "0001/1111/0111", "0100/1001/1000");
        shifts(v, "0100/0001/0000", "0200/2210/0100");
        due("LEFT", Rows.kinds(v, 0), "0200/2210/0200");
        Counted w = plain(";most 2;slack 0", "0011/1011/1010", "0001/1000/1111");
        shifts(w, "0001/0000/0102", "0010/0010/1010");
        due("RIGHT", Rows.kinds(w, 1), "0002/0010/0112");
    }

    private static void goneAreUnlike() {
        Counted v = plain(";most 3;slack 0", "100/010/111", "011/101/111");
        due("PIECES", Rows.pieces(v, 0), "010/103/033");
        kinds("LEAST 1", v, "201/020/200", "022/002/002");
        v.tune(6, 2);
        kinds("LEAST 2", v, "211/120/200", "022/002/002");
        v.tune(6, 3);
        kinds("LEAST 3", v, "211/120/200", "022/002/002");
        v.tune(6, 4);
        kinds("LEAST 4", v, "211/121/211", "022/002/002");
        v.tune(6, 5);
        kinds("LEAST 5", v, "211/121/211", "022/002/002");
        v.tune(6, 6);
        kinds("LEAST 6", v, "211/121/211", "122/112/112");
        v.tune(6, 1);
        kinds("LEAST 1 again", v, "201/020/200", "022/002/002");
    }

    // 21: kinds

    private static void howManyOfAKind() {
        Counted v = plain(";most 3;slack 0", "100/010/111", "011/101/111");
        int[][] want = {{5, 1, 3}, {5, 0, 4}};
        for (int view = 0; view < 2; view++) {
            for (int kind = 0; kind < 3; kind++) {
                due("view " + view + ", KIND " + kind, v.kinds(view, kind), want[view][kind]);
            }
            for (int kind : new int[] {-1, 3, FAR_OUT, FAR_BELOW}) {
                due("KIND " + kind, v.kinds(view, kind), NONE);
            }
        }
        for (int view : new int[] {-1, 2, FAR_OUT, FAR_BELOW}) {
            for (int kind = 0; kind < 3; kind++) {
                due("view " + view, v.kinds(view, kind), NONE);
            }
        }
        Counted all = new Counted();
        all.size(16, 12);
        due("all SURE", all.kinds(1, 0), 192);
        due("none HIDDEN", all.kinds(1, 2), 0);
    }

    // 22: piece

    /** LEFT 0, 2 lies with its SHIFT of 0 over a corner from 1, 1; 2, 0 by 2 beside one by 0. */
    private static void hangTogether() {
        Counted v = plain(";most 4;slack 0", "001/100/001", "110/000/011");
        shifts(v, "012/000/011", "210/100/010");
        kinds("row by row", v, "220/200/020", "022/100/002");
        due("LEFT", Rows.pieces(v, 0), "001/033/103");
        due("RIGHT", Rows.pieces(v, 1), "100/044/440");
        Counted w = plain(";most 5;slack 0", "000/001/100", "010/111/011");
        shifts(w, "010/002/010", "000/200/100");
        kinds("row by row", w, "010/200/200", "020/002/020");
        due("LEFT", Rows.pieces(w, 0), "101/031/033");
        due("RIGHT", Rows.pieces(w, 1), "101/210/201");
    }

    /** From the first PLACE on, 2, 0 is come to by going up alone, 0, 2 by going to the left alone. */
    private static void roundCorners() {
        Counted up = plain(";most 1;slack 0", "110/111/000", "111/110/110");
        due("SHIFTS", Rows.shifts(up, 0), "011/000/010");
        due("KINDS", Rows.kinds(up, 0), "020/000/010");
        due("one PIECE", Rows.pieces(up, 0), "707/777/707");
        due("pieces", up.pieces(0, 0), 1);
        Counted back = plain(";most 3;slack 0", "000/110/000", "010/010/100");
        due("SHIFTS", Rows.shifts(back, 0), "010/000/000");
        due("KINDS", Rows.kinds(back, 0), "010/200/000");
        due("two PIECES", Rows.pieces(back, 0), "106/066/666");
        due("pieces", back.pieces(0, 0), 2);
    }

    private static void goneOrNot() {
        Counted v = plain(";most 3;slack 0", "100/010/111", "011/101/111");
        for (int least : new int[] {1, 2, 4, 50}) {
            v.tune(6, least);
            due("LEFT, LEAST " + least, Rows.pieces(v, 0), "010/103/033");
            due("RIGHT, LEAST " + least, Rows.pieces(v, 1), "500/550/550");
        }
    }

    // 23, 24: pieces, pieceAt

    private static void fewerThanLeast() {
        int[][] sizes = {{10, 5, 50}, {7, 7, 49}, {3, 3, 9}, {16, 12, 192}};
        for (int[] s : sizes) {
            Counted v = new Counted();
            v.size(s[0], s[1]);
            for (int least : new int[] {1, 2, 8, 9, 10, 48, 49, 50}) {
                v.tune(6, least);
                boolean stays = s[2] >= least;
                String when = s[2] + " PLACES, LEAST " + least;
                for (int view = 0; view < 2; view++) {
                    due(when, v.pieces(view, 0), stays ? 1 : 0);
                    due(when + ", greatest", v.pieces(view, 1), stays ? s[2] : 0);
                    due(when + ", first", v.pieceAt(view, 0, 0), stays ? s[2] : NONE);
                    due(when + ", KIND", v.kind(view, 0, 0), stays ? 0 : 1);
                    due(when + ", PLACES", v.piece(view, 0, 0), s[2]);
                }
            }
        }
    }

    private static void piecesArguments() {
        Counted v = new Counted();
        for (int view = 0; view < 2; view++) {
            due("what 0", v.pieces(view, 0), 1);
            due("what 1", v.pieces(view, 1), 48);
            for (int what : new int[] {-1, 2, FAR_OUT, FAR_BELOW}) {
                due("what " + what, v.pieces(view, what), NONE);
            }
        }
        for (int view : new int[] {-1, 2, FAR_OUT, FAR_BELOW}) {
            due("view " + view, v.pieces(view, 0), NONE);
            due("view " + view, v.pieces(view, 1), NONE);
        }
    }

    private static void piecesNotGone() {
        Counted v = plain(";most 3;slack 0", "100/010/111", "011/101/111");
        int[][] left = {{3, 3}, {1, 3}, {1, 3}, {0, 0}, {0, 0}, {0, 0}};
        int[][] right = {{1, 5}, {1, 5}, {1, 5}, {1, 5}, {1, 5}, {0, 0}};
        for (int least = 1; least <= 6; least++) {
            v.tune(6, least);
            for (int what = 0; what < 2; what++) {
                due("LEFT, LEAST " + least, v.pieces(0, what), left[least - 1][what]);
                due("RIGHT, LEAST " + least, v.pieces(1, what), right[least - 1][what]);
            }
        }
    }

    private static void tellsPiece(Counted v, int view, int i, int... want) {
        for (int what = 0; what < 8; what++) {
            due("pieceAt(" + view + ", " + i + ", " + what + ")", v.pieceAt(view, i, what), want[what]);
        }
    }

    /** PIECES 010/103/033 of LEFT: that of three first, then the two of one as they lie. */
    private static void orderOfPieces() {
        Counted v = plain(";most 3;slack 0", "100/010/111", "011/101/111");
        shifts(v, "012/011/011", "100/010/110");
        tellsPiece(v, 0, 0, 3, 2, 1, 1, 1, 2, 2, 3);
        tellsPiece(v, 0, 1, 1, 1, 0, 1, 0, 1, 0, 1);
        tellsPiece(v, 0, 2, 1, 0, 1, 0, 1, 0, 1, 0);
        tellsPiece(v, 0, 3, NONE, NONE, NONE, NONE, NONE, NONE, NONE, NONE);
        tellsPiece(v, 1, 0, 5, 0, 0, 0, 0, 1, 2, 4);
        tellsPiece(v, 1, 1, NONE, NONE, NONE, NONE, NONE, NONE, NONE, NONE);
        v.tune(6, 2);
        tellsPiece(v, 0, 0, 3, 2, 1, 1, 1, 2, 2, 3);
        tellsPiece(v, 0, 1, NONE, NONE, NONE, NONE, NONE, NONE, NONE, NONE);
    }

    private static void pieceAtArguments() {
        Counted v = new Counted();
        v.size(16, 12);
        for (int view = 0; view < 2; view++) {
            tellsPiece(v, view, 0, 192, 0, 0, 0, 0, 15, 11, 0);
            for (int n : new int[] {-1, 8, FAR_OUT, FAR_BELOW}) {
                due("what " + n, v.pieceAt(view, 0, n), NONE);
            }
            for (int n : new int[] {-1, 1, 2, FAR_OUT, FAR_BELOW}) {
                due("i " + n, v.pieceAt(view, n, 0), NONE);
            }
        }
        for (int n : new int[] {-1, 2, FAR_OUT, FAR_BELOW}) {
            due("view " + n, v.pieceAt(n, 0, 0), NONE);
        }
    }

    // 25: fine

    private static void fineAtTheEnds() {
        Counted v = new Counted();
        due("SHIFT 0: none by one less", v.fine(7, 5), 0);
        for (int most = 1; most <= 7; most++) {
            Counted w = wall(most);
            due("SHIFT MOST", w.shift(0, 12, 1), most);
            due("none by one more than " + most, w.fine(12, 1), 16 * most);
        }
        Counted one = Rows.tell(";most 1;penalty 4 6;paths 2;slack 0", "001/000/010", "000/000/101");
        due("MOST 1", Rows.of(one, (x, y) -> one.fine(x, y)), "000/000/ggg");
    }

    private static void fineOf(Counted v, int x, int y, int l, int c, int r, int want) {
        int own = v.shift(0, x, y);
        due("one less", v.sum(x, y, own - 1), l);
        due("it", v.sum(x, y, own), c);
        due("one more", v.sum(x, y, own + 1), r);
        due("FINE of " + l + ", " + c + ", " + r, v.fine(x, y), 16 * own + want);
    }

    private static void greatestNotAbove() {
        // 8 * (3 - 8) / 11 is -3.6, 8 * (4 - 2) / 6 is 2.6
        fineOf(plain(";most 3", "010/010/000", "110/110/011"), 1, 2, 3, 0, 8, -4);
        fineOf(plain(";most 3", "010/101/100", "011/110/101"), 2, 2, 4, 0, 2, 2);
        // 8 * (7 - 8) / 11 is -0.7
        fineOf(plain(";most 5", "010/000/010", "100/000/111"), 1, 0, 7, 2, 8, -1);
        // 8 * (4 - 8) / 8, whole
        fineOf(plain(";most 4", "010/111/111", "100/011/000"), 2, 1, 4, 2, 8, -4);
        // 8 * (4 - 0) / 4: as great as can be
        fineOf(plain(";most 2", "000/101/100", "001/110/111"), 2, 0, 4, 0, 0, 8);
        // 8 * (2 - 17) / 17 is -7.05: as little as can be
        fineOf(Rows.tell(";most 4;penalty 1 9;paths 1", "366/312/433", "412/123/443"), 2, 2, 2, 1, 17, -8);
        // l + r - 2 c is 1, as little as can be above 0: a like SUM by one less would be the SHIFT's
        fineOf(Rows.tell(";paths 4", "00000/00000/00000", "55555/55505/55555"), 2, 0, 1, 0, 0, 8);
        // 8 * (1 - 8) / 9 is -6.2
        fineOf(plain(";most 4", "101/101/011", "111/110/000"), 1, 0, 1, 0, 8, -7);
    }

    // 26, 27: ground, votes

    private static void groundArguments() {
        Counted v = new Counted();
        int[] want = {0, 0, 48};
        for (int what = 0; what < 3; what++) {
            due("what " + what, v.ground(what), want[what]);
        }
        for (int what : new int[] {-1, 3, FAR_OUT, FAR_BELOW}) {
            due("what " + what, v.ground(what), NONE);
        }
    }

    private static void groundOfNoneSure() {
        Counted v = new Counted();
        v.size(7, 7);
        v.tune(6, 49);
        due("all SURE", v.ground(2), 49);
        v.tune(6, 50);
        for (int what = 0; what < 3; what++) {
            due("none SURE, what " + what, v.ground(what), NONE);
        }
        due("votes", v.votes(0, 0), 0);
        // of RIGHT some are SURE still: none of LEFT is
        Counted w = plain(";most 3;slack 0", "100/010/111", "011/101/111");
        w.tune(6, 4);
        due("RIGHT", w.kinds(1, 0), 5);
        due("LEFT", w.kinds(0, 0), 0);
        due("none of LEFT", w.ground(2), NONE);
    }

    /** SHIFTS 011/002/011: 0, 0, 1 by rows has 5 votes for q 1 and p 2, for q 2 and p 0, 1 and more. */
    private static void likeLines() {
        Counted v = plain(";most 3;slack 2", "110/101/110", "101/100/101");
        due("SHIFTS", Rows.shifts(v, 0), "011/002/011");
        due("all SURE", v.kinds(0, 0), 9);
        due("p 2, q 1", v.votes(2, 1), 5);
        due("p 0, q 2", v.votes(0, 2), 5);
        due("p 1, q 2", v.votes(1, 2), 5);
        due("p 3, q 1: 0, 1, 1", v.votes(3, 1), 1 + 0 + 2);
        due("p 1, q 1: 0, 0, 0", v.votes(1, 1), 1 + 2 + 1);
        due("p", v.ground(0), 2);
        due("q", v.ground(1), 1);
        due("VOTES", v.ground(2), 5);
        // (p + 4) / 8 is 2 from 12 to 19: the least p
        Counted w = plain(";most 4;slack 0", "011/100/011", "101/001/100");
        due("SHIFTS", Rows.shifts(w, 0), "002/001/002");
        due("KINDS", Rows.kinds(w, 0), "220/201/220");
        due("p 11", w.votes(11, 0), 0);
        due("p 12", w.votes(12, 0), 2);
        due("p 19", w.votes(19, 0), 2);
        due("p 20", w.votes(20, 0), 0);
        due("the least p", w.ground(0), 12);
        due("the least q", w.ground(1), 0);
    }

    private static void downwardsVotes() {
        for (int s = 1; s <= 7; s++) {
            Counted v = wall(s);
            int sure = v.votes(8 * s, 0);
            due("more than a third of them", sure > 16 ? 1 : 0, 1);
            due("from 8 s - 4 on", v.votes(8 * s - 4, 0), sure);
            due("not before", v.votes(8 * s - 5, 0) < sure ? 1 : 0, 1);
            due("up to 8 MOST", v.votes(8 * s + 1, 0), NONE);
            due("p", v.ground(0), 8 * s - 4);
            due("q", v.ground(1), 0);
            due("VOTES", v.ground(2), sure);
        }
    }

    private static void votesArguments() {
        for (int most = 1; most <= 7; most++) {
            Counted v = new Counted();
            v.tune(0, most);
            due("p 0, q 0", v.votes(0, 0), 48);
            due("p 8 MOST, q 8", v.votes(8 * most, 8), 0);
            due("p 8 MOST + 1", v.votes(8 * most + 1, 0), NONE);
            due("q 9", v.votes(0, 9), NONE);
            // (8 y + 4) / 8 is 0 for y 0 alone
            due("p 0, q 8", v.votes(0, 8), 8);
            for (int n : new int[] {-1, 57, FAR_OUT, FAR_BELOW}) {
                due("p " + n, v.votes(n, 0), NONE);
                due("q " + n, v.votes(0, n), NONE);
            }
        }
    }

    // 28, 29: between, holes

    private static void betweenArguments() {
        Counted v = new Counted();
        v.value(0, 7, 5, 9);
        due("t 0", v.between(0, 7, 5), 9);
        due("t 4", v.between(4, 0, 0), 0);
        due("holes 0", v.holes(0), 0);
        due("holes 4", v.holes(4), 0);
        for (int t : new int[] {-1, 5, FAR_OUT, FAR_BELOW}) {
            due("t " + t, v.between(t, 0, 0), NONE);
            due("holes " + t, v.holes(t), NONE);
        }
    }

    private static void betweens(Counted v, String... want) {
        for (int t = 0; t <= 4; t++) {
            int at = t;
            String got = Rows.of(v, (x, y) -> v.between(at, x, y));
            due("t " + t, got, want[t]);
            due("holes " + t, v.holes(t), want[t].chars().filter(c -> c == '_').count());
        }
    }

    /**
     * Row 1 by t 2: LEFT 1 and 2 come to 0 and 1, LEFT 0 stays behind the first of these; RIGHT 1
     * comes to 2. Row 2 by t 2: LEFT 1 comes to 0, RIGHT 1 to 2, where LEFT 2 is: none to 1.
     */
    private static void severalOrNone() {
        Counted v = plain(";most 2;slack 1", "110/010/010", "110/101/111");
        filled(v, "000/011/010", "000/010/010");
        betweens(v, "110/010/010", "110/010/010", "110/100/1_0", "110/101/110", "110/101/110");
    }

    /** Row 0 by t 2: none of LEFT comes to 2; of RIGHT 1 by 1 and 2 by 0 do: the greater FILLED. */
    private static void severalOfRight() {
        Counted v = plain(";most 3;slack 3", "011/000/111", "001/111/100");
        filled(v, "001/000/000", "010/000/000");
        betweens(v, "011/000/111", "011/000/111", "010/000/111", "011/000/111", "011/000/111");
    }

    /** FILLED 222 of row 0: by t 2 two of LEFT come to 0, 1; 2 of RIGHT to 3, which is not there. */
    private static void comesOutsideOfThePicture() {
        Counted v = plain(";most 4;slack 0", "011/100/011", "101/001/100");
        filled(v, "222/002/222", "202/200/202");
        betweens(v, "011/100/011", "111/100/111", "11_/101/11_", "11_/001/11_", "101/001/100");
    }

    /** Row 2 by t 1: LEFT 0 goes out, 1 stays behind 2; RIGHT 0 comes to 2: none to the first PLACE. */
    private static void holeAtTheEdge() {
        Counted v = plain(";most 3;slack 0", "100/010/110", "100/000/011");
        filled(v, "000/000/202", "000/000/222");
        betweens(v, "100/010/110", "100/010/_00", "100/010/_01", "100/010/011", "100/010/011");
    }

    private static void downwardsBetween() {
        int[][] gone = {
            {0, 0, 1, 1, 1}, {0, 1, 1, 2, 2}, {0, 1, 2, 2, 3}, {0, 1, 2, 3, 4}, {0, 1, 3, 4, 5},
            {0, 2, 3, 5, 6}, {0, 2, 4, 5, 7}
        };
        for (int s = 1; s <= 7; s++) {
            Counted v = wall(s);
            for (int x = 9; x <= 13; x++) {
                due("FILLED " + s, v.filled(0, x, 1), s);
                for (int t = 0; t <= 4; t++) {
                    due("t " + t + " by " + s, v.between(t, x - gone[s - 1][t], 1), v.at(0, x, 1));
                }
            }
        }
    }

    // 30: filled

    private static void hiddenBetweenTwo() {
        Counted lesserLeft = plain(";most 3;slack 1", "1001/0000/0001", "0110/1000/0111");
        due("KINDS", Rows.kinds(lesserLeft, 0), "0000/0000/0020");
        due("SHIFTS", Rows.shifts(lesserLeft, 0), "0122/0000/0122");
        due("1, 2: the lesser one", lesserLeft.filled(0, 2, 2), 1);
        Counted lesserRight = plain(";most 3;slack 0", "01101/11010/10000", "11110/11101/11011");
        due("KINDS", Rows.kinds(lesserRight, 0), "02201/22020/20011");
        due("SHIFTS", Rows.shifts(lesserRight, 0), "00122/00211/01012");
        due("2, 1: the lesser one", lesserRight.filled(0, 3, 1), 1);
        due("0, 2: the lesser one, 0", lesserRight.filled(0, 1, 0), 0);
        due("the nearest ones beyond another HIDDEN one", lesserRight.filled(0, 2, 0), 0);
    }

    private static void hiddenBesideOne() {
        Counted v = plain(";most 2;slack 0", "101/110/000", "010/011/001");
        shifts(v, "010/012/001", "100/210/000");
        kinds("row by row", v, "200/220/001", "020/022/002");
        // LEFT 0 and 1 of row 1: 2 to their right alone; RIGHT 1 and 2 of row 1: 2 to their left
        due("of the other one, LEFT", v.filled(0, 0, 1), 2);
        due("of the other one, LEFT", v.filled(0, 1, 1), 2);
        due("of the other one, RIGHT", v.filled(1, 1, 1), 2);
        due("of the other one, RIGHT", v.filled(1, 2, 1), 2);
        filled(v, "110/222/000", "100/222/000");
    }

    private static void hiddenWithoutBoth() {
        Counted v = plain(";most 4;slack 0", "110/100/101", "011/010/111");
        v.tune(6, 4);
        shifts(v, "012/010/000", "210/100/100");
        kinds("LEAST 4", v, "221/200/200", "122/121/111");
        due("LEFT 1, 0, though its SHIFT is 1", v.filled(0, 1, 0), 0);
        due("RIGHT 1, 0, though its SHIFT is 1", v.filled(1, 1, 0), 0);
        filled(v, "000/110/000", "000/000/000");
    }

    /** In row 1 the only SURE one is at the other end of the widest picture. */
    private static void hiddenFarAway() {
        Counted v = plain(";most 7;slack 0", "43e331bc2ac7cee3/9642c2ce9b4a6690/81251dd8a05f706c",
            "2a01ec8c8b9c2688/4a5510320012377b/be87e314f7955a77");
        due("KINDS", Rows.kinds(v, 0).substring(17, 33), "2222211222122120");
        due("SHIFT at 15", v.shift(0, 15, 1), 6);
        due("FILLED at 0", v.filled(0, 0, 1), 6);
        Counted w = plain(";most 7;slack 0", "78f91f7d77bcbbcd/3b6be530e0f56ab3/2b6797f7873800ac",
            "77928948c9aa6b51/32cf01dfeefffc02/6c471fd9aadbe4c5");
        w.tune(6, 2);
        due("KINDS", Rows.kinds(w, 1).substring(17, 33), "0121112122122212");
        due("SHIFT at 0", w.shift(1, 0, 1), 6);
        due("FILLED at 15", w.filled(1, 15, 1), 6);
    }

    private static void unlikeByFew() {
        Counted none = plain(";most 2;slack 0", "000/011/011", "001/111/100");
        none.tune(6, 4);
        shifts(none, "001/012/000", "000/210/010");
        kinds("LEAST 4", none, "111/221/121", "112/122/111");
        filled(none, "000/000/000", "000/000/000");
        Counted one = plain(";most 4;slack 0", "001/100/001", "110/011/110");
        due("SHIFTS", Rows.shifts(one, 0), "012/012/012");
        due("KINDS", Rows.kinds(one, 0), "011/201/011");
        due("1 alone", one.filled(0, 2, 1), 1);
        Counted two = plain(";most 3;slack 0", "100/111/100", "010/110/011");
        due("SHIFTS", Rows.shifts(two, 0), "010/012/012");
        due("KINDS", Rows.kinds(two, 0), "200/220/201");
        due("1, 2: the lower one", two.filled(0, 2, 2), 1);
        Counted three = plain(";most 4;slack 0", "110/110/001", "101/011/101");
        due("SHIFTS", Rows.shifts(three, 0), "001/012/000");
        due("KINDS", Rows.kinds(three, 0), "210/220/000");
        due("0, 1, 2", three.filled(0, 1, 0), 1);
        Counted four = plain(";most 3;slack 0", "0001/1001/1111", "0110/0110/1011");
        due("SHIFTS", Rows.shifts(four, 0), "0122/0122/0012");
        due("KINDS", Rows.kinds(four, 0), "0210/2010/2210");
        due("0, 1, 2, 2: the lower one", four.filled(0, 2, 0), 1);
    }

    private static void unlikeByMany() {
        Counted five = plain(";most 2;slack 0", "133/111/013", "230/031/122");
        due("SHIFTS", Rows.shifts(five, 0), "002/012/001");
        due("KINDS", Rows.kinds(five, 0), "200/210/020");
        due("0, 0, 1, 2, 2", five.filled(0, 1, 1), 1);
        Counted six = plain(";most 3;slack 1", "2121/0001/0112", "0122/0111/1100");
        due("SHIFTS", Rows.shifts(six, 0), "0103/0123/0123");
        due("KINDS", Rows.kinds(six, 0), "2200/0011/2000");
        due("0, 1, 1, 2, 3, 3: the lower one", six.filled(0, 2, 1), 1);
        Counted seven = plain(";most 2;slack 1", "10111/10011/00011", "11101/01111/11010");
        due("SHIFTS", Rows.shifts(seven, 0), "00221/01222/01000");
        due("KINDS", Rows.kinds(seven, 0), "01000/00011/00000");
        due("0, 0, 0, 1, 2, 2, 2", seven.filled(0, 3, 1), 1);
        Counted eight = plain(";most 5;slack 2", "11110/00111/11011", "10011/11001/11111");
        due("SHIFTS", Rows.shifts(eight, 0), "00032/01033/01234");
        due("KINDS", Rows.kinds(eight, 0), "22000/00010/00000");
        due("0, 0, 2, 2, 3, 3, 3, 4: the lower one", eight.filled(0, 3, 1), 2);
        Counted right = plain(";most 5;slack 2", "01011/01110/10011", "01101/10000/00011");
        due("SHIFTS", Rows.shifts(right, 1), "02210/23210/10000");
        due("KINDS", Rows.kinds(right, 1), "00000/01000/00000");
        due("0, 0, 0, 1, 2, 2, 2, 2: the lower one", right.filled(1, 1, 1), 1);
    }

    /** Without the PIECES of one, which are GONE, other ones are the nearest. */
    private static void goneOnesDoNotFill() {
        Counted v = plain(";most 3;slack 0", "100/010/111", "011/101/111");
        shifts(v, "012/011/011", "100/010/110");
        kinds("LEAST 1", v, "201/020/200", "022/002/002");
        filled(v, "111/001/111", "111/011/111");
        v.tune(6, 2);
        kinds("LEAST 2", v, "211/120/200", "022/002/002");
        // row 0 has no SURE one any more: 0, 0 is HIDDEN; 0, 1 is UNLIKE and sees 1 alone
        filled(v, "011/111/111", "111/011/111");
    }

    // 31: depth

    private static void depths() {
        for (int s = 1; s <= 7; s++) {
            Counted v = wall(s);
            due("FILLED", v.filled(0, 12, 1), s);
            for (int focus : new int[] {1, 2, 6, 7, 8, 100, 998, 999}) {
                v.tune(7, focus);
                due("FOCUS " + focus + " by " + s, v.depth(12, 1), (focus - focus % s) / s);
            }
        }
        Counted v = new Counted();
        for (int focus : new int[] {1, 999}) {
            v.tune(7, focus);
            due("FAR for 0", v.depth(7, 5), -2);
        }
    }

    /** DEPTH is by FILLED, not by SHIFT: 110/222/000 of LEFT, where SHIFTS are 010/012/001. */
    private static void depthByFilled() {
        Counted v = plain(";most 2;slack 0", "101/110/000", "010/011/001");
        v.tune(7, 9);
        due("DEPTH", Rows.of(v, (x, y) -> v.depth(x, y)), "99_/444/___");
    }

    // 34: wrong

    private static void wrongArguments() {
        Counted v = new Counted();
        v.tune(0, 7);
        v.layer(0, 0, 8, 6, 7, 1);
        // nothing is drawn: FILLED is 0, TRUTH 7, and seven of eight are COVERED
        for (int by = 0; by <= 7; by++) {
            due("by " + by + " of all", v.wrong(by, 0), by < 7 ? 48 : 0);
            due("by " + by + " of COVERED", v.wrong(by, 1), by < 7 ? 42 : 0);
            due("by " + by + " of others", v.wrong(by, 2), by < 7 ? 6 : 0);
        }
        for (int n : new int[] {-1, 8, FAR_OUT, FAR_BELOW}) {
            for (int what = 0; what < 3; what++) {
                due("by " + n, v.wrong(n, what), NONE);
            }
        }
        for (int n : new int[] {-1, 3, FAR_OUT, FAR_BELOW}) {
            due("what " + n, v.wrong(0, n), NONE);
        }
    }

    private static void moreThanSoMuch() {
        for (int s = 0; s <= 7; s++) {
            Counted v = new Counted();
            v.tune(0, 7);
            v.layer(7, 5, 1, 1, s, 1);
            for (int by = 0; by <= 7; by++) {
                due("TRUTH " + s + ", FILLED 0, by " + by, v.wrong(by, 0), s > by ? 1 : 0);
            }
        }
    }

    private static void wrongWithALayerAlone() {
        Counted v = new Counted();
        due("without LAYERS", v.wrong(0, 0), 0);
        v.layer(2, 2, 3, 2, 1, 1);
        due("of six", v.wrong(0, 0), 6);
        due("none COVERED", v.wrong(0, 1), 0);
        due("others", v.wrong(0, 2), 6);
        v.clear();
        due("cleared", v.wrong(0, 0), 0);
        // FILLED above TRUTH counts likewise
        Counted w = wall(3);
        due("FILLED", w.filled(0, 12, 1), 3);
        w.layer(12, 1, 1, 1, 0, 1);
        due("3 apart, by 2", w.wrong(2, 2), 1);
        due("3 apart, by 3", w.wrong(3, 2), 0);
    }

    private static void kindsAndPieces() {
        CHECK.sentence(20, "SLACK or less from its own: 0, 1", DepthBoundsTest::slackOne);
        CHECK.sentence(20, "SLACK or less from its own: 2", DepthBoundsTest::slackTwo);
        CHECK.sentence(20, "SLACK or less from its own: 3, 4", DepthBoundsTest::slackThree);
        CHECK.sentence(20, "SURE, if that is there", DepthBoundsTest::seenOutsideOfThePicture);
        CHECK.sentence(20, "SURE, at x - SHIFT 0", DepthBoundsTest::seenAtTheFirstPlace);
        CHECK.sentence(20, "UNLIKE, if some d there is; else HIDDEN", DepthBoundsTest::pointedAt);
        CHECK.sentence(20, "UNLIKE, if some d there is: MOST", DepthBoundsTest::pointedAtByMost);
        CHECK.sentence(20, "UNLIKE, if its PIECE is GONE", DepthBoundsTest::goneAreUnlike);
        CHECK.sentence(21, "KINDS 0 to 2; NONE: others", DepthBoundsTest::howManyOfAKind);
        CHECK.sentence(22, "by sides over which SHIFTS are 1 or less apart", DepthBoundsTest::hangTogether);
        CHECK.sentence(22, "hang together by sides, whichever way round", DepthBoundsTest::roundCorners);
        CHECK.sentence(22, "GONE or not (0: it is none of any)", DepthBoundsTest::goneOrNot);
        CHECK.sentence(23, "fewer PLACES than LEAST (1 to 50)", DepthBoundsTest::fewerThanLeast);
        CHECK.sentence(23, "what 0, 1; NONE: others", DepthBoundsTest::piecesArguments);
        CHECK.sentence(23, "not GONE: how many, the greatest (0 without)", DepthBoundsTest::piecesNotGone);
        CHECK.sentence(24, "the most first, then as its first PLACE lies; none such", DepthBoundsTest::orderOfPieces);
        CHECK.sentence(24, "what 0 to 7; NONE: others", DepthBoundsTest::pieceAtArguments);
    }

    private static void finesAndLines() {
        CHECK.sentence(25, "if SUMS are all there", DepthBoundsTest::fineAtTheEnds);
        CHECK.sentence(25, "the greatest whole number not above", DepthBoundsTest::greatestNotAbove);
        CHECK.sentence(26, "what 0 to 2; NONE: others", DepthBoundsTest::groundArguments);
        CHECK.sentence(26, "NONE: no PLACE is SURE", DepthBoundsTest::groundOfNoneSure);
        CHECK.sentence(26, "of like ones the least q, then the least p", DepthBoundsTest::likeLines);
        CHECK.sentence(27, "(p + q y + 4) / 8, downwards", DepthBoundsTest::downwardsVotes);
        CHECK.sentence(27, "p 0 to 8 MOST, q 0 to 8; NONE: others", DepthBoundsTest::votesArguments);
    }

    private static void betweenAndFilled() {
        CHECK.sentence(28, "t 0 to 4; NONE: others", DepthBoundsTest::betweenArguments);
        CHECK.sentence(28, "of several the one of greatest FILLED; -2: a HOLE", DepthBoundsTest::severalOrNone);
        CHECK.sentence(28, "where none comes: of RIGHT likewise", DepthBoundsTest::severalOfRight);
        CHECK.sentence(28, "(t * FILLED + 2) / 4, downwards", DepthBoundsTest::downwardsBetween);
        CHECK.sentence(29, "how many HOLES, none at t 0 and 4", DepthBoundsTest::comesOutsideOfThePicture);
        CHECK.sentence(29, "how many HOLES, at the first PLACE too", DepthBoundsTest::holeAtTheEdge);
        CHECK.sentence(30, "HIDDEN: the lesser one", DepthBoundsTest::hiddenBetweenTwo);
        CHECK.sentence(30, "HIDDEN: if one is none: of the other one", DepthBoundsTest::hiddenBesideOne);
        CHECK.sentence(30, "HIDDEN: 0 without both", DepthBoundsTest::hiddenWithoutBoth);
        CHECK.sentence(30, "HIDDEN: the nearest, however far", DepthBoundsTest::hiddenFarAway);
        CHECK.sentence(30, "UNLIKE: the middle one of 0 to 4", DepthBoundsTest::unlikeByFew);
        CHECK.sentence(30, "UNLIKE: the middle one of 5 to 8", DepthBoundsTest::unlikeByMany);
        CHECK.sentence(30, "SURE (not GONE)", DepthBoundsTest::goneOnesDoNotFill);
        CHECK.sentence(31, "FOCUS by FILLED, downwards; FAR for 0", DepthBoundsTest::depths);
        CHECK.sentence(31, "by FILLED", DepthBoundsTest::depthByFilled);
        CHECK.sentence(34, "so much (0 to 7), what 0 to 2; NONE: others", DepthBoundsTest::wrongArguments);
        CHECK.sentence(34, "more than so much from TRUTH", DepthBoundsTest::moreThanSoMuch);
        CHECK.sentence(34, "PLACES of LEFT with a LAYER", DepthBoundsTest::wrongWithALayerAlone);
    }

    public static void main(String[] args) {
        kindsAndPieces();
        finesAndLines();
        betweenAndFilled();
        CHECK.end();
    }
}
