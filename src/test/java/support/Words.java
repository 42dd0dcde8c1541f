/** Puts texts on a tape, twenty bytes a call; blanks fill up the last call. */
final class Words {
    private Words() {
    }

    static int[] pack(String bytes) {
        int calls = (bytes.length() + 19) / 20;
        int[] numbers = new int[calls * 5];
        for (int i = 0; i < calls * 20; i++) {
            int sign = i < bytes.length() ? bytes.charAt(i) & 255 : 32;
            numbers[i / 4] = numbers[i / 4] << 8 | sign;
        }
        return numbers;
    }

    static int put(Counted views, String bytes) {
        int[] n = pack(bytes);
        int length = views.count(12);
        for (int i = 0; i < n.length; i += 5) {
            length = views.feed(n[i], n[i + 1], n[i + 2], n[i + 3], n[i + 4]);
        }
        return length;
    }

    static int read(Counted views, String bytes) {
        put(views, bytes);
        return views.text(bytes.length());
    }

    static int fault(int place, int kind) {
        return -2 - (8 * place + kind);
    }
}
