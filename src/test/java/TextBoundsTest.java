/** The edges of THE TAPE and of a TEXT: promises 2 and 3, a sentence each. */
public final class TextBoundsTest {
    private static final int NONE = TwoViews.NONE;
    private static final int FAR_OUT = Integer.MAX_VALUE;
    private static final int FAR_BELOW = Integer.MIN_VALUE;
    private static final Check CHECK = new Check();
    private static final String SMALL = "size 4 3";
    private static final int[] FIRST = {8, 6, 3, 1, 2, 6, 255, 1, 1, 100, 0, 0, 0};

    private TextBoundsTest() {
    }

    private static void due(String call, long got, long want) {
        CHECK.due(call, got, want);
    }

    private static void due(String call, String got, String want) {
        CHECK.due(call, got, want);
    }

    private static void counts(String when, Counted v, int... want) {
        for (int i = 0; i < want.length; i++) {
            due(when + ", count(" + i + ")", v.count(i), want[i]);
        }
    }

    private static Counted taken(String text, int lines) {
        Counted v = new Counted();
        due("\"" + text + "\"", Words.read(v, text), lines);
        due("an ACT", v.count(11), 1);
        due("THE TAPE is empty", v.count(12), 0);
        return v;
    }

    private static void taken(String text, int lines, int what, int want) {
        due("\"" + text + "\", count(" + what + ")", taken(text, lines).count(what), want);
    }

    private static void fault(String text, int place, int kind) {
        Counted v = new Counted();
        due("\"" + text + "\"", Words.read(v, text), -2 - (8 * place + kind));
        counts("\"" + text + "\"", v, FIRST);
    }

    // 2: feed

    private static void feedToTheFull() {
        Counted v = new Counted();
        for (int i = 1; i <= 35; i++) {
            due("feed " + i, v.feed(0, 0, 0, 0, 0), 20 * i);
            due("bytes", v.count(12), 20 * i);
        }
        for (int i = 0; i < 3; i++) {
            due("feed beyond", v.feed(0, 0, 0, 0, 0), NONE);
            due("none come", v.count(12), 700);
        }
    }

    private static void fullTapeStays() {
        Counted v = new Counted();
        String text = "size 3 3;left 2 abc;slack 3" + " ".repeat(673);
        due("put", Words.put(v, text), 700);
        due("refused", v.feed(-1, -1, -1, -1, -1), NONE);
        due("more than there are", v.text(701), NONE);
        due("all 700", v.text(700), 2);
        due("left", Rows.values(v, 0), "000/000/abc");
        due("feed into the empty one", v.feed(0, 0, 0, 0, 0), 20);
    }

    /** One byte that begins no TOKEN among blanks: the FAULT's place tells where it came. */
    private static void highestFirst() {
        for (int place = 0; place < 20; place++) {
            for (int sign : new int[] {1, 127, 128, 255}) {
                int[] n = {0x20202020, 0x20202020, 0x20202020, 0x20202020, 0x20202020};
                int far = 24 - 8 * (place % 4);
                n[place / 4] = n[place / 4] & ~(255 << far) | sign << far;
                Counted v = new Counted();
                due("feed", v.feed(n[0], n[1], n[2], n[3], n[4]), 20);
                due("byte " + sign + " at " + place, v.text(20), -2 - (8 * place + 1));
            }
        }
    }

    private static void behindTheTape() {
        Counted v = new Counted();
        v.feed(0x73697a65, 0x20332034, 0x3b6d6f73, 0x7420373b, 0x736c6163);
        due("second", v.feed(0x6b20333b, 0x6c656674, 0x20332061, 0x6263200a, FAR_BELOW), 40);
        due("over both", v.text(36), 3);
        counts("told", v, 3, 4, 7, 1, 2, 6, 255, 3);
        due("left", Rows.values(v, 0), "000/000/000/abc");
    }

    // 3: text

    private static void howManyBytes() {
        for (int n : new int[] {-1, FAR_BELOW, 1, FAR_OUT}) {
            due("empty, text(" + n + ")", new Counted().text(n), NONE);
        }
        due("empty, text(0)", new Counted().text(0), -3);
        Counted v = new Counted();
        Words.put(v, "size 4 3;left 0 0f1a");
        for (int n : new int[] {-1, 21, 22, 700, 701, FAR_BELOW, FAR_OUT}) {
            due("text(" + n + ")", v.text(n), NONE);
            due("THE TAPE stays", v.count(12), 20);
            due("no ACT", v.count(11), 0);
        }
        due("all of it", v.text(20), 1);
        due("as it stood on THE TAPE", Rows.values(v, 0), "0f1a/0000/0000");
        due("it is empty then", v.count(12), 0);
        due("none is left", v.text(1), NONE);
    }

    private static void firstBytesAlone() {
        String all = "size 16 12;most 2   ";
        int[] want = {
            // the end, inside of size, the end, inside of 16: below 3, the end, inside of 12: below 3
            -2 - 1, -2 - 1, -2 - 1, -2 - 1, -2 - 33, -2 - 41, -2 - 42, -2 - 57, -2 - 65, -2 - 66, 0,
            -2 - 89, -2 - 89, -2 - 89, -2 - 89, -2 - 121, -2 - 129, 1, 1, 1, 1
        };
        for (int n = 0; n <= 20; n++) {
            Counted v = new Counted();
            due("put", Words.put(v, all), 20);
            due("text(" + n + ")", v.text(n), want[n]);
            due("THE TAPE is empty, text(" + n + ")", v.count(12), 0);
        }
    }

    private static void elseAsAtFirst() {
        Counted v = new Counted();
        Words.read(v, "size 3 3;most 7;window 2;penalty 9 10;paths 3;slack 3;left 0 fff;right 2 fff");
        v.tune(6, 50);
        v.tune(7, 999);
        v.layer(0, 0, 3, 3, 7, 1);
        due("size alone", Words.read(v, "size 3 3"), 0);
        counts("size alone", v, 3, 3, 3, 1, 2, 6, 255, 1, 50, 999, 1, 4, 0);
        due("LEFT", Rows.values(v, 0), "000/000/000");
        due("RIGHT", Rows.values(v, 1), "000/000/000");
        due("LAYERS stay", v.truth(0, 0, 0), 7);
    }

    private static void faultLeavesAllElse() {
        Counted v = new Counted();
        Words.read(v, "size 3 3;most 7;window 2;penalty 9 10;paths 3;slack 2;left 0 fff;right 2 aaa");
        v.tune(6, 50);
        v.tune(7, 999);
        v.layer(0, 0, 3, 3, 7, 1);
        String late = "size 3 3;most 1;window 1;penalty 0 0;paths 1;slack 0;left 0 000;right 2 00g";
        due("a fault in the last sign", Words.read(v, late), -2 - (8 * (late.length() - 1) + 3));
        counts("all else stays", v, 3, 3, 7, 2, 9, 10, 3, 2, 50, 999, 1, 3, 0);
        due("LEFT", Rows.values(v, 0), "fff/000/000");
        due("RIGHT", Rows.values(v, 1), "000/000/aaa");
        due("the latest ACT is the same one", v.undo(), 2);
        due("FOCUS", v.count(9), 100);
        due("another text may come then", Words.read(v, "size 4 3;slack 3"), 1);
        counts("told", v, 4, 3, 3, 1, 2, 6, 255, 3, 50, 100, 1, 3, 0);
    }

    private static void howManyLines() {
        taken("size 3 3", 0);
        taken("size 3 3;slack 0", 1);
        // more than these 98 do not fit
        String most = "size 3 3" + ";most 1".repeat(97) + ";most 2" + " ".repeat(6);
        due("as long as can be", most.length(), 700);
        taken(most, 98, 2, 2);
    }

    private static void largestPicture() {
        StringBuilder text = new StringBuilder("size 16 12");
        StringBuilder left = new StringBuilder();
        StringBuilder right = new StringBuilder();
        for (int y = 0; y < 12; y++) {
            String row = "0123456789abcdef".substring(y) + "0123456789abcdef".substring(0, y);
            String back = new StringBuilder(row).reverse().toString();
            text.append(";left ").append(y).append(' ').append(row);
            text.append(";right ").append(y).append(' ').append(back);
            left.append(y == 0 ? "" : "/").append(row);
            right.append(y == 0 ? "" : "/").append(back);
        }
        Counted v = new Counted();
        due("24 rows", Words.read(v, text.toString()), 24);
        due("LEFT", Rows.values(v, 0), left.toString());
        due("RIGHT", Rows.values(v, 1), right.toString());
    }

    private static void toldLast() {
        taken("size 3 3;most 7;most 1;most 5", 3, 2, 5);
        taken("size 3 3;window 2;window 1", 2, 3, 1);
        taken("size 3 3;paths 1;paths 255;paths 128", 3, 6, 128);
        taken("size 3 3;slack 3;slack 0", 2, 7, 0);
        taken("size 3 3;penalty 60 60;penalty 1 2", 2, 4, 1);
        taken("size 3 3;penalty 1 2;penalty 60 60", 2, 5, 60);
        Counted v = taken("size 3 3;left 1 fff;right 1 aaa;left 1 012;left 0 999", 4);
        due("LEFT", Rows.values(v, 0), "999/012/000");
        due("RIGHT", Rows.values(v, 1), "000/aaa/000");
    }

    private static void numberOfPlaces() {
        taken("size 3 3", 0, 0, 3);
        taken("size 16 12", 0, 0, 16);
        taken("size 16 12", 0, 1, 12);
        taken("size 3 12", 0, 1, 12);
        taken("size 16 3", 0, 1, 3);
        for (int n : new int[] {0, 1, 2, 17, 18, 99, 100, 999}) {
            fault("size " + n + " 3", 5, 2);
        }
        for (int n : new int[] {0, 1, 2, 13, 14, 99, 100, 999}) {
            fault("size 3 " + n, 7, 2);
        }
        fault("size 2 2", 5, 2);
        fault("size 2 x", 5, 2);
    }

    private static void numbersOfLines(String word, int what, int low, int high) {
        int place = SMALL.length() + 2 + word.length();
        taken(SMALL + ";" + word + " " + low, 1, what, low);
        taken(SMALL + ";" + word + " " + high, 1, what, high);
        if (low > 0) {
            fault(SMALL + ";" + word + " " + (low - 1), place, 2);
        }
        fault(SMALL + ";" + word + " " + (high + 1), place, 2);
        fault(SMALL + ";" + word + " 999", place, 2);
    }

    private static void penalties() {
        taken("size 4 3;penalty 0 0", 1, 5, 0);
        taken("size 4 3;penalty 0 60", 1, 5, 60);
        taken("size 4 3;penalty 60 60", 1, 4, 60);
        taken("size 4 3;penalty 7 7", 1, 4, 7);
        fault("size 4 3;penalty 61 61", 17, 2);
        fault("size 4 3;penalty 61 60", 17, 2);
        fault("size 4 3;penalty 0 61", 19, 2);
        fault("size 4 3;penalty 7 6", 19, 2);
        fault("size 4 3;penalty 60 59", 20, 2);
        fault("size 4 3;penalty 1 0", 19, 2);
        fault("size 4 3;penalty 999 0", 17, 2);
        fault("size 4 3;penalty 0 999", 19, 2);
    }

    private static void rowNumbers() {
        for (String word : new String[] {"left", "right"}) {
            int place = 10 + word.length();
            taken("size 4 3;" + word + " 0 0000", 1);
            taken("size 4 3;" + word + " 2 0000", 1);
            fault("size 4 3;" + word + " 3 0000", place, 2);
            fault("size 4 3;" + word + " 11 0000", place, 2);
            fault("size 4 3;" + word + " 999 0000", place, 2);
            taken("size 3 12;" + word + " 11 000", 1);
            fault("size 3 12;" + word + " 12 000", place + 1, 2);
            // of two faults the first from the left
            fault("size 4 3;" + word + " 3 00g", place, 2);
        }
    }

    private static void rowLengths() {
        for (int w = 3; w <= 16; w++) {
            for (String word : new String[] {"left", "right"}) {
                String head = "size " + w + " 3;" + word + " 1 ";
                for (int signs = 1; signs <= 20; signs++) {
                    String text = head + "f".repeat(signs);
                    if (signs == w) {
                        Counted v = taken(text, 1);
                        due("the last sign", v.at(word.equals("left") ? 0 : 1, w - 1, 1), 15);
                    } else {
                        fault(text, head.length(), 3);
                    }
                }
            }
        }
    }

    private static void rowSigns() {
        String signs = "0123456789abcdef";
        for (int sign = 0; sign < 256; sign++) {
            char c = (char) sign;
            boolean letter = c >= '0' && c <= '9' || c >= 'a' && c <= 'z';
            for (int at = 0; at < 4; at++) {
                String row = "0000".substring(0, at) + c + "0000".substring(at + 1);
                String text = "size 4 3;left 0 " + row;
                if (signs.indexOf(c) >= 0) {
                    due("sign " + sign, taken(text, 1).at(0, at, 0), signs.indexOf(c));
                } else if (letter) {
                    fault(text, 16 + at, 3);
                } else if (at > 0) {
                    // it parts the row, which is too short then
                    fault(text, 16, 3);
                }
            }
        }
        fault("size 4 3;left 0 gggg", 16, 3);
        fault("size 4 3;left 0 0ghi", 17, 3);
        fault("size 4 3;left 0 g0000", 16, 3);
        fault("size 4 3;left 0 000g0", 16, 3);
    }

    private static void digits() {
        taken("size 003 03", 0, 0, 3);
        taken("size 016 012", 0, 1, 12);
        taken("size 4 3;slack 0", 1, 7, 0);
        taken("size 4 3;slack 00", 1, 7, 0);
        taken("size 4 3;slack 000", 1, 7, 0);
        taken("size 4 3;paths 010", 1, 6, 10);
        taken("size 4 3;left 000 0000", 1);
        fault("size 4 3;slack 0000", 15, 1);
        fault("size 0003 3", 5, 1);
        fault("size 3 0003", 7, 1);
        fault("size 1000 3", 5, 1);
        fault("size 4 3;paths 1000", 15, 1);
        fault("size 4 3;paths 4294967297", 15, 1);
        fault("size 4 3;left 0000 0000", 14, 1);
        fault("size 4 3;penalty 0000 1", 17, 1);
        fault("size 4 3;penalty 0 0001", 19, 1);
        fault("size 4 3;slack 0a", 15, 1);
        fault("size 4 3;slack a0", 15, 1);
        fault("size 4 3;slack a", 15, 1);
        fault("size 4 3;slack -1", 15, 1);
    }

    private static void blanks() {
        taken(" size 4 3", 0, 0, 4);
        taken("\n\n  size\n4\n3\n", 0, 1, 3);
        taken("size 4 3 ; most 2\n;\nslack 3 \n", 2, 7, 3);
        taken("size 4 3;left 0\n0000", 1);
        fault("si ze 4 3", 0, 1);
        fault("size 1 6 3", 5, 2);
        fault("size 4 3;mo st 2", 9, 1);
        fault("size 4 3;left 0 00 00", 16, 3);
        fault("size4 3", 0, 1);
        fault("size 4 3;most2", 9, 1);
        fault("size 4 3;slack 3most 2", 15, 1);
        // other blanks of other worlds are none here
        for (char c : new char[] {0, 9, 11, 12, 13, 31, 33, 127, 160}) {
            fault("size" + c + "4 3", 4, 1);
            fault(c + "size 4 3", 0, 1);
            fault("size 4 3" + c, 8, 1);
            fault("size 4 3;" + c, 9, 1);
        }
    }

    /** Every byte behind a whole text: blanks mean nothing, ; goes on, others are faults. */
    private static void bytesThatBeginNoToken() {
        for (int sign = 0; sign < 256; sign++) {
            char c = (char) sign;
            String text = SMALL + " " + c;
            if (c == ' ' || c == '\n') {
                taken(text, 0);
            } else if (c == ';') {
                fault(text, 10, 1);
            } else {
                fault(text, 9, 1);
            }
        }
        fault("Size 4 3", 0, 1);
        fault("siZe 4 3", 0, 1);
        fault("size 4 3;mosT 2", 9, 1);
        fault("size 4 3:most 2", 8, 1);
        fault("size 4 3;most 2.", 15, 1);
        fault("size 4 3;most 9.", 14, 2);
        fault("size 4 3;left 0 000.", 16, 3);
        fault("size 4 3;left 0 0000.", 20, 1);
    }

    private static void tokensThatDoNotGoOn() {
        fault("siz 4 3", 0, 1);
        fault("sizes 4 3", 0, 1);
        fault("most 2", 0, 1);
        fault("; size 4 3", 0, 1);
        fault("4 3", 0, 1);
        fault("size x 3", 5, 1);
        fault("size ; 3", 5, 1);
        fault("size 4 x", 7, 1);
        fault("size 4;", 6, 1);
        fault("size 4 3 3", 9, 1);
        fault("size 4 3 most 2", 9, 1);
        fault("size 4 3;;", 9, 1);
        fault("size 4 3;4", 9, 1);
        fault("size 4 3;size 4 3", 9, 1);
        fault("size 4 3;mos 2", 9, 1);
        fault("size 4 3;mosts 2", 9, 1);
        fault("size 4 3;focus 2", 9, 1);
        fault("size 4 3;least 2", 9, 1);
        fault("size 4 3;most ;", 14, 1);
        fault("size 4 3;most 2 2", 16, 1);
        fault("size 4 3;window 1 1", 18, 1);
        fault("size 4 3;penalty 1 ;", 19, 1);
        fault("size 4 3;penalty 1 2 3", 21, 1);
        fault("size 4 3;paths ;", 15, 1);
        fault("size 4 3;slack 1 1", 17, 1);
        fault("size 4 3;left x 0000", 14, 1);
        fault("size 4 3;left ;", 14, 1);
        fault("size 4 3;left 0 ;", 16, 1);
        fault("size 4 3;left 0 0000 0000", 21, 1);
        fault("size 4 3;right 0 0000 1 0000", 22, 1);
        fault("size 4 3;right x 0000", 15, 1);
        fault("size 4 3;right 0 ;", 17, 1);
    }

    private static void theEnd() {
        String[] cut = {
            "", "size", "size 4", "size 4 3;", "size 4 3;most", "size 4 3;window", "size 4 3;penalty",
            "size 4 3;penalty 1", "size 4 3;paths", "size 4 3;slack", "size 4 3;left", "size 4 3;left 0",
            "size 4 3;right", "size 4 3;right 0", "size 4 3;most 2;"
        };
        for (String text : cut) {
            fault(text, text.length(), 1);
            fault(text + " ", text.length() + 1, 1);
            fault(text + " \n\n ", text.length() + 4, 1);
        }
        for (int n : new int[] {699, 700}) {
            String text = "size 4 3;" + " ".repeat(n - 9);
            fault(text, n, 1);
        }
        fault("size 4 3;" + " ".repeat(690) + "x", 699, 1);
        fault("size 4 3;left 2 " + " ".repeat(680) + "000g", 699, 3);
        fault("size 4 3;slack " + " ".repeat(684) + "4", 699, 2);
    }

    private static void firstFromTheLeft() {
        fault("size 2 2;x", 5, 2);
        fault("size 4 2;x", 7, 2);
        fault("size 4 3;x;most 9", 9, 1);
        fault("size 4 3;most 9;x", 14, 2);
        fault("size 4 3;most 9 9", 14, 2);
        fault("size 4 3;left 0 00g0 x", 18, 3);
        fault("size 4 3;left 0 000 x", 16, 3);
        fault("size 4 3;left 9 00g0", 14, 2);
        fault("size 4 3;penalty 61 x", 17, 2);
        fault("size 4 3;penalty 9 x", 19, 1);
        // no NUMBER, were it within bounds or not: of one place the least
        fault("size 4 3;most 9999", 14, 1);
        // another length and a sign that is none, both at the first sign
        fault("size 4 3;left 0 g", 16, 3);
    }

    public static void main(String[] args) {
        CHECK.sentence(2, "NONE, and none come, if it would have more than 700", TextBoundsTest::feedToTheFull);
        CHECK.sentence(2, "none come: what it has stays", TextBoundsTest::fullTapeStays);
        CHECK.sentence(2, "of each number the highest first", TextBoundsTest::highestFirst);
        CHECK.sentence(2, "twenty bytes come behind THE TAPE", TextBoundsTest::behindTheTape);
        CHECK.sentence(3, "NONE: it has not so many, n is below 0 (THE TAPE stays)", TextBoundsTest::howManyBytes);
        CHECK.sentence(3, "the first n bytes (it is empty then)", TextBoundsTest::firstBytesAlone);
        CHECK.sentence(3, "else as at first (LAYERS, FOCUS, LEAST stay)", TextBoundsTest::elseAsAtFirst);
        CHECK.sentence(3, "a FAULT (all else stays)", TextBoundsTest::faultLeavesAllElse);
        CHECK.sentence(3, "how many LINES (behind size)", TextBoundsTest::howManyLines);
        CHECK.sentence(3, "the largest picture whole", TextBoundsTest::largestPicture);
        CHECK.sentence(3, "what is told again counts as told last", TextBoundsTest::toldLast);
        CHECK.sentence(3, "size: 3 to 16, 3 to 12", TextBoundsTest::numberOfPlaces);
        CHECK.sentence(3, "most: 1 to 7", () -> numbersOfLines("most", 2, 1, 7));
        CHECK.sentence(3, "window: 1, 2", () -> numbersOfLines("window", 3, 1, 2));
        CHECK.sentence(3, "paths: 1 to 255", () -> numbersOfLines("paths", 6, 1, 255));
        CHECK.sentence(3, "slack: 0 to 3", () -> numbersOfLines("slack", 7, 0, 3));
        CHECK.sentence(3, "penalty: 0 to 60 (B below A, too)", TextBoundsTest::penalties);
        CHECK.sentence(3, "left, right: y", TextBoundsTest::rowNumbers);
        CHECK.sentence(3, "a ROW of another length (at it)", TextBoundsTest::rowLengths);
        CHECK.sentence(3, "with a sign that is none (at that sign)", TextBoundsTest::rowSigns);
        CHECK.sentence(3, "NUMBER: 1 to 3 digits alone", TextBoundsTest::digits);
        CHECK.sentence(3, "blanks, 32, 10, part TOKENS", TextBoundsTest::blanks);
        CHECK.sentence(3, "the first byte that begins no TOKEN", TextBoundsTest::bytesThatBeginNoToken);
        CHECK.sentence(3, "TOKEN with which no such text goes on", TextBoundsTest::tokensThatDoNotGoOn);
        CHECK.sentence(3, "the end: its place", TextBoundsTest::theEnd);
        CHECK.sentence(3, "the first from the left, of one place the least", TextBoundsTest::firstFromTheLeft);
        CHECK.end();
    }
}
