import java.util.NoSuchElementException;

public final class TwoViews {
    public static final int NONE = -1;

    private static final int LEFT = 0;
    private static final int RIGHT = 1;

    private static final int LEAST_WIDE = 3;
    private static final int MOST_WIDE = 16;
    private static final int LEAST_HIGH = 3;
    private static final int MOST_HIGH = 12;
    /** Rows lie 16 apart whatever the width, so that a place's number needs no division. */
    private static final int ROW_BITS = 4;
    private static final int PICTURE = MOST_HIGH << ROW_BITS;
    private static final int HIGHEST_VALUE = 15;

    private static final int SHIFT_BITS = 3;
    private static final int ALL_SHIFTS = 1 << SHIFT_BITS;

    /** What tune() may set, by its own numbers. */
    private static final int MOST = 0;
    private static final int WINDOW = 1;
    private static final int PENALTY_A = 2;
    private static final int PENALTY_B = 3;
    private static final int PATHS = 4;
    private static final int SLACK = 5;
    private static final int LEAST = 6;
    private static final int FOCUS = 7;
    private static final int DIALS = 8;
    private static final int[] DIAL_LOWEST = {1, 1, 0, 0, 1, 0, 1, 1};
    private static final int[] DIAL_HIGHEST = {7, 2, 60, 60, 255, 3, 50, 999};
    private static final int[] DIAL_FIRST = {3, 1, 2, 6, 255, 1, 1, 100};

    private static final int WAYS = 8;
    /** The first four of the ways are the ones over sides. */
    private static final int SIDES = 4;
    private static final int[] WAY_X = {1, -1, 0, 0, 1, -1, 1, -1};
    private static final int[] WAY_Y = {0, 0, 1, -1, 1, -1, -1, 1};
    private static final int TO_THE_RIGHT = 0;
    private static final int TO_THE_LEFT = 1;

    private static final int SURE = 0;
    private static final int UNLIKE = 1;
    private static final int HIDDEN = 2;

    private static final int HOLE = -2;
    private static final int FAR = -2;
    private static final int QUARTERS = 4;
    private static final int STEEPEST = 8;

    private static final int TAPE_BYTES = 700;
    private static final int MOST_LAYERS = 6;
    private static final int UNDOABLE = 8;
    private static final int IMAGES = 2;

    /** How far what is worked out of the pictures stands; each stage needs the ones before it. */
    private static final int NOTHING = 0;
    private static final int CODED = 1;
    private static final int SUMMED = 2;
    private static final int SHIFTED = 3;
    private static final int PIECED = 4;
    private static final int COMPLETE = 5;
    /** The stage that still stands when a dial is another one. */
    private static final int[] STANDS_AFTER = {
        CODED, NOTHING, CODED, CODED, CODED, SHIFTED, SHIFTED, COMPLETE
    };

    private final Scene scene;
    private final Layers layers;
    private final Tape tape;
    private final Reader reader;
    private final Past past;
    private final Image[] images;
    private final Matcher matcher;
    private final Maps maps;
    private final Pieces parts;
    private final RowChoice rowChoice;
    private final Lines lines;
    private int stage;

    public TwoViews() {
        scene = new Scene();
        layers = new Layers();
        tape = new Tape();
        reader = new Reader(tape);
        past = new Past();
        images = new Image[IMAGES];
        for (int i = 0; i < IMAGES; i++) {
            images[i] = new Image();
        }
        matcher = new Matcher(scene);
        maps = new Maps(scene, matcher);
        parts = new Pieces(scene, maps);
        rowChoice = new RowChoice(scene, matcher);
        lines = new Lines(scene, maps);
        stage = NOTHING;
    }

    public int feed(int a, int b, int c, int d, int e) {
        if (!tape.hasRoomFor(20)) {
            return NONE;
        }
        tape.append(a);
        tape.append(b);
        tape.append(c);
        tape.append(d);
        tape.append(e);
        return tape.length;
    }

    public int text(int n) {
        if (n < 0 || n > tape.length) {
            return NONE;
        }
        int answer = reader.readText(n, scene);
        tape.length = 0;
        if (answer >= 0) {
            beginAct(NOTHING);
            scene.become(reader.told);
        }
        return answer;
    }

    public boolean size(int w, int h) {
        if (w < LEAST_WIDE || w > MOST_WIDE || h < LEAST_HIGH || h > MOST_HIGH) {
            return false;
        }
        beginAct(NOTHING);
        scene.blank(w, h);
        return true;
    }

    public int value(int view, int x, int y, int v) {
        if (!scene.has(view, x, y) || v < 0 || v > HIGHEST_VALUE) {
            return NONE;
        }
        beginAct(NOTHING);
        int spot = spotOf(view, x, y);
        int before = scene.values[spot];
        scene.values[spot] = v;
        return before;
    }

    public int tune(int what, int v) {
        if (!scene.mayTune(what, v)) {
            return NONE;
        }
        beginAct(STANDS_AFTER[what]);
        int before = scene.dials[what];
        scene.dials[what] = v;
        return before;
    }

    public int layer(int x, int y, int w, int h, int shift, int seed) {
        boolean fits = isWithin(x, -20, 20) && isWithin(y, -20, 20)
            && isWithin(w, 1, 40) && isWithin(h, 1, 40) && scene.isShift(shift);
        if (!fits || layers.held >= MOST_LAYERS) {
            return NONE;
        }
        int number = layers.held;
        layers.x[number] = x;
        layers.y[number] = y;
        layers.w[number] = w;
        layers.h[number] = h;
        layers.shift[number] = shift;
        layers.seed[number] = seed;
        layers.held = number + 1;
        return number;
    }

    public int clear() {
        int before = layers.held;
        layers.held = 0;
        return before;
    }

    public int draw() {
        beginAct(NOTHING);
        int covered = 0;
        for (int y = 0; y < scene.h; y++) {
            for (int x = 0; x < scene.w; x++) {
                int seen = layers.seenAt(LEFT, x, y);
                covered += seen == NONE ? 0 : 1;
                scene.values[spotOf(LEFT, x, y)] = layers.textureAt(LEFT, seen, x, y);
                scene.values[spotOf(RIGHT, x, y)] =
                    layers.textureAt(RIGHT, layers.seenAt(RIGHT, x, y), x, y);
            }
        }
        return covered;
    }

    public int truth(int x, int y, int what) {
        if (!scene.has(LEFT, x, y) || what < 0 || what > 1) {
            return NONE;
        }
        int seen = layers.seenAt(LEFT, x, y);
        if (what == 1) {
            return layers.isCovered(seen, x, y) ? 1 : 0;
        }
        return seen == NONE ? NONE : layers.shift[seen];
    }

    public int at(int view, int x, int y) throws NoSuchElementException {
        needPlace(view, x, y);
        return scene.values[spotOf(view, x, y)];
    }

    public int code(int view, int x, int y) throws NoSuchElementException {
        needPlace(view, x, y);
        reach(CODED);
        return matcher.codes[spotOf(view, x, y)];
    }

    public int same(int view, int x, int y) throws NoSuchElementException {
        needPlace(view, x, y);
        reach(CODED);
        int wanted = matcher.codes[spotOf(view, x, y)];
        return matcher.howOften(LEFT, wanted) + matcher.howOften(RIGHT, wanted);
    }

    public int codes(int view) {
        if (!isView(view)) {
            return NONE;
        }
        reach(CODED);
        return matcher.unlikeCodes(view);
    }

    public int cost(int x, int y, int shift) {
        if (!scene.has(LEFT, x, y) || !scene.isShift(shift)) {
            return NONE;
        }
        reach(CODED);
        return matcher.costs[cellOf(x, y, shift)];
    }

    public int path(int way, int x, int y, int shift) {
        if (!isWithin(way, 0, WAYS - 1) || !scene.has(LEFT, x, y) || !scene.isShift(shift)) {
            return NONE;
        }
        reach(CODED);
        matcher.tell(way);
        return matcher.told[cellOf(x, y, shift)];
    }

    public int sum(int x, int y, int shift) {
        if (!scene.has(LEFT, x, y) || !scene.isShift(shift)) {
            return NONE;
        }
        reach(SUMMED);
        return matcher.sums[cellOf(x, y, shift)];
    }

    public int shift(int view, int x, int y) throws NoSuchElementException {
        needPlace(view, x, y);
        reach(SHIFTED);
        return maps.shifts[spotOf(view, x, y)];
    }

    public int margin(int x, int y) throws NoSuchElementException {
        needPlace(LEFT, x, y);
        reach(SHIFTED);
        return maps.marginAt(x, y);
    }

    public int kind(int view, int x, int y) {
        if (!scene.has(view, x, y)) {
            return NONE;
        }
        reach(PIECED);
        return maps.kinds[spotOf(view, x, y)];
    }

    public int kinds(int view, int kind) {
        if (!isView(view) || !isWithin(kind, SURE, HIDDEN)) {
            return NONE;
        }
        reach(PIECED);
        return maps.howManyOf(view, kind);
    }

    public int piece(int view, int x, int y) {
        if (!scene.has(view, x, y)) {
            return NONE;
        }
        reach(PIECED);
        return parts.sizeAt(spotOf(view, x, y), view);
    }

    public int pieces(int view, int what) {
        if (!isView(view) || what < 0 || what > 1) {
            return NONE;
        }
        reach(PIECED);
        return what == 0 ? parts.howManyStay(view) : parts.greatest(view);
    }

    public int pieceAt(int view, int i, int what) {
        if (!isView(view) || i < 0 || !isWithin(what, 0, 7)) {
            return NONE;
        }
        reach(PIECED);
        int number = parts.ranked(view, i);
        return number == NONE ? NONE : parts.tellOf(view, number, what);
    }

    public int fine(int x, int y) throws NoSuchElementException {
        needPlace(LEFT, x, y);
        reach(SHIFTED);
        return maps.fineAt(x, y);
    }

    public int ground(int what) {
        if (!isWithin(what, 0, 2)) {
            return NONE;
        }
        reach(PIECED);
        return lines.bestLine(what);
    }

    public int votes(int p, int q) {
        if (!isWithin(p, 0, STEEPEST * scene.dials[MOST]) || !isWithin(q, 0, STEEPEST)) {
            return NONE;
        }
        reach(PIECED);
        lines.gather();
        return lines.votesFor(p, q);
    }

    public int between(int t, int x, int y) {
        if (!isWithin(t, 0, QUARTERS) || !scene.has(LEFT, x, y)) {
            return NONE;
        }
        reach(COMPLETE);
        return maps.valueBetween(t, x, y);
    }

    public int holes(int t) {
        if (!isWithin(t, 0, QUARTERS)) {
            return NONE;
        }
        reach(COMPLETE);
        int found = 0;
        for (int y = 0; y < scene.h; y++) {
            for (int x = 0; x < scene.w; x++) {
                found += maps.valueBetween(t, x, y) == HOLE ? 1 : 0;
            }
        }
        return found;
    }

    public int filled(int view, int x, int y) throws NoSuchElementException {
        needPlace(view, x, y);
        reach(COMPLETE);
        return maps.filled[spotOf(view, x, y)];
    }

    public int depth(int x, int y) throws NoSuchElementException {
        needPlace(LEFT, x, y);
        reach(COMPLETE);
        int shift = maps.filled[spotOf(LEFT, x, y)];
        return shift <= 0 ? FAR : scene.dials[FOCUS] / shift;
    }

    public int row(int y, int x) {
        boolean known = x == NONE || isWithin(x, 0, scene.w - 1);
        if (!known || !isWithin(y, 0, scene.h - 1)) {
            return NONE;
        }
        reach(CODED);
        int price = rowChoice.choose(y);
        return x == NONE ? price : rowChoice.chosen[x];
    }

    public int energy(int what) {
        if (!isWithin(what, 0, 2)) {
            return NONE;
        }
        if (what == 0) {
            reach(COMPLETE);
            return maps.priceOf(maps.filled);
        }
        if (what == 1) {
            reach(SHIFTED);
            return maps.priceOf(maps.shifts);
        }
        reach(CODED);
        int price = 0;
        for (int y = 0; y < scene.h; y++) {
            price += rowChoice.choose(y);
        }
        return price;
    }

    public int wrong(int by, int what) {
        if (!isWithin(by, 0, ALL_SHIFTS - 1) || !isWithin(what, 0, 2)) {
            return NONE;
        }
        reach(COMPLETE);
        int found = 0;
        for (int y = 0; y < scene.h; y++) {
            for (int x = 0; x < scene.w; x++) {
                found += isWrong(x, y, by, what) ? 1 : 0;
            }
        }
        return found;
    }

    public int undo() {
        if (past.held == 0) {
            return NONE;
        }
        past.giveBack(scene);
        keepUpTo(NOTHING);
        return past.held;
    }

    public boolean image(int i) {
        if (!isWithin(i, 0, IMAGES - 1)) {
            return false;
        }
        images[i].scene.become(scene);
        images[i].layers.become(layers);
        images[i].made = true;
        return true;
    }

    public boolean back(int i) {
        if (!isWithin(i, 0, IMAGES - 1) || !images[i].made) {
            return false;
        }
        scene.become(images[i].scene);
        layers.become(images[i].layers);
        past.held = 0;
        keepUpTo(NOTHING);
        return true;
    }

    public int count(int what) {
        switch (what) {
            case 0:
                return scene.w;
            case 1:
                return scene.h;
            case 10:
                return layers.held;
            case 11:
                return past.held;
            case 12:
                return tape.length;
            default:
                return isWithin(what, 2, 1 + DIALS) ? scene.dials[what - 2] : NONE;
        }
    }

    private static boolean isWithin(int n, int lowest, int highest) {
        return n >= lowest && n <= highest;
    }

    private static boolean isView(int view) {
        return view == LEFT || view == RIGHT;
    }

    private static int spotOf(int view, int x, int y) {
        return view * PICTURE + (y << ROW_BITS) + x;
    }

    private static int cellOf(int x, int y, int shift) {
        return (spotOf(LEFT, x, y) << SHIFT_BITS) + shift;
    }

    private void needPlace(int view, int x, int y) {
        if (!scene.has(view, x, y)) {
            throw new NoSuchElementException("no such place");
        }
    }

    private void beginAct(int stands) {
        past.keep(scene);
        keepUpTo(stands);
    }

    private void keepUpTo(int stands) {
        if (stage > stands) {
            stage = stands;
        }
        if (stands <= CODED) {
            matcher.forgetWay();
        }
    }

    /** Works out what is missing up to a stage; one after another, so that calls stay shallow. */
    private void reach(int goal) {
        if (stage < CODED && goal >= CODED) {
            matcher.makeCodes();
            matcher.makeCosts();
        }
        if (stage < SUMMED && goal >= SUMMED) {
            matcher.makeSums();
        }
        if (stage < SHIFTED && goal >= SHIFTED) {
            maps.makeShifts();
        }
        if (stage < PIECED && goal >= PIECED) {
            maps.makeKinds();
            parts.makePieces(LEFT);
            parts.makePieces(RIGHT);
        }
        if (stage < COMPLETE && goal >= COMPLETE) {
            maps.makeFilled();
        }
        if (stage < goal) {
            stage = goal;
        }
    }

    private boolean isWrong(int x, int y, int by, int what) {
        int seen = layers.seenAt(LEFT, x, y);
        if (seen == NONE) {
            return false;
        }
        int apart = Math.abs(maps.filled[spotOf(LEFT, x, y)] - layers.shift[seen]);
        if (apart <= by) {
            return false;
        }
        return what == 0 || layers.isCovered(seen, x, y) == (what == 1);
    }

    /** All that ACTS change. */
    private static final class Scene {
        int w;
        int h;
        final int[] dials;
        final int[] values;

        Scene() {
            w = 8;
            h = 6;
            dials = new int[DIALS];
            System.arraycopy(DIAL_FIRST, 0, dials, 0, DIALS);
            values = new int[2 * PICTURE];
        }

        void become(Scene other) {
            w = other.w;
            h = other.h;
            System.arraycopy(other.dials, 0, dials, 0, DIALS);
            System.arraycopy(other.values, 0, values, 0, 2 * PICTURE);
        }

        void blank(int wide, int high) {
            w = wide;
            h = high;
            for (int i = 0; i < 2 * PICTURE; i++) {
                values[i] = 0;
            }
        }

        boolean hasSpot(int x, int y) {
            return x >= 0 && x < w && y >= 0 && y < h;
        }

        boolean has(int view, int x, int y) {
            return isView(view) && hasSpot(x, y);
        }

        boolean isShift(int shift) {
            return shift >= 0 && shift <= dials[MOST];
        }

        boolean mayTune(int what, int v) {
            if (!isWithin(what, 0, DIALS - 1)) {
                return false;
            }
            if (!isWithin(v, DIAL_LOWEST[what], DIAL_HIGHEST[what])) {
                return false;
            }
            boolean tooHigh = what == PENALTY_A && v > dials[PENALTY_B];
            boolean tooLow = what == PENALTY_B && v < dials[PENALTY_A];
            return !tooHigh && !tooLow;
        }

        int bits() {
            return dials[WINDOW] == 1 ? 8 : 24;
        }

        int stepPrice(int from, int to) {
            if (from == to) {
                return 0;
            }
            return Math.abs(from - to) == 1 ? dials[PENALTY_A] : dials[PENALTY_B];
        }
    }

    private static final class Layers {
        int held;
        final int[] x;
        final int[] y;
        final int[] w;
        final int[] h;
        final int[] shift;
        final int[] seed;

        Layers() {
            x = new int[MOST_LAYERS];
            y = new int[MOST_LAYERS];
            w = new int[MOST_LAYERS];
            h = new int[MOST_LAYERS];
            shift = new int[MOST_LAYERS];
            seed = new int[MOST_LAYERS];
        }

        void become(Layers other) {
            held = other.held;
            System.arraycopy(other.x, 0, x, 0, MOST_LAYERS);
            System.arraycopy(other.y, 0, y, 0, MOST_LAYERS);
            System.arraycopy(other.w, 0, w, 0, MOST_LAYERS);
            System.arraycopy(other.h, 0, h, 0, MOST_LAYERS);
            System.arraycopy(other.shift, 0, shift, 0, MOST_LAYERS);
            System.arraycopy(other.seed, 0, seed, 0, MOST_LAYERS);
        }

        int leftEdge(int view, int number) {
            return view == LEFT ? x[number] : x[number] - shift[number];
        }

        /** The layer told last hides the others. */
        int seenAt(int view, int px, int py) {
            for (int i = held - 1; i >= 0; i--) {
                int edge = leftEdge(view, i);
                boolean across = edge <= px && px < edge + w[i];
                if (across && y[i] <= py && py < y[i] + h[i]) {
                    return i;
                }
            }
            return NONE;
        }

        int textureAt(int view, int number, int px, int py) {
            if (number == NONE) {
                return 0;
            }
            int i = px - leftEdge(view, number);
            int j = py - y[number];
            int v = seed[number] * 31 + i * 7919 + j * 104729;
            v = v * 1103515245 + 12345;
            return (v >>> 16) % 16;
        }

        boolean isCovered(int number, int px, int py) {
            if (number == NONE) {
                return false;
            }
            int there = px - shift[number];
            return there < 0 || seenAt(RIGHT, there, py) != number;
        }
    }

    private static final class Tape {
        int length;
        final byte[] bytes;

        Tape() {
            bytes = new byte[TAPE_BYTES];
        }

        boolean hasRoomFor(int more) {
            return length + more <= TAPE_BYTES;
        }

        void append(int four) {
            if (!hasRoomFor(4)) {
                return;
            }
            bytes[length] = (byte) (four >> 24);
            bytes[length + 1] = (byte) (four >> 16);
            bytes[length + 2] = (byte) (four >> 8);
            bytes[length + 3] = (byte) four;
            length += 4;
        }

        int signAt(int place) {
            return bytes[place] & 255;
        }
    }

    /** Reads a TEXT into a scene of its own, so that a fault leaves all as it was. */
    private static final class Reader {
        final Scene told;
        private final Tape tape;
        private int end;
        /** The token read last; empty at the end and at a byte that begins none. */
        private int start;
        private int stop;
        /** 8 * place + kind of the first fault; 0 without any. */
        private int fault;

        Reader(Tape tape) {
            this.tape = tape;
            told = new Scene();
        }

        int readText(int n, Scene before) {
            end = n;
            stop = 0;
            fault = 0;
            takeDefaults(before);
            takeSize();
            int found = 0;
            while (fault == 0 && found <= TAPE_BYTES) {
                advance();
                if (start == end) {
                    return found;
                }
                takeLine();
                found++;
            }
            return -2 - fault;
        }

        private void takeDefaults(Scene before) {
            System.arraycopy(DIAL_FIRST, 0, told.dials, 0, DIALS);
            told.dials[LEAST] = before.dials[LEAST];
            told.dials[FOCUS] = before.dials[FOCUS];
        }

        private void takeSize() {
            advance();
            if (!isToken("size")) {
                fail(1, start);
            }
            int wide = takeNumber(LEAST_WIDE, MOST_WIDE);
            int high = takeNumber(LEAST_HIGH, MOST_HIGH);
            told.blank(wide, high);
        }

        private void takeLine() {
            if (!isToken(";")) {
                fail(1, start);
                return;
            }
            advance();
            if (isToken("most")) {
                takeDial(MOST);
            } else if (isToken("window")) {
                takeDial(WINDOW);
            } else if (isToken("penalty")) {
                takePenalties();
            } else if (isToken("paths")) {
                takeDial(PATHS);
            } else if (isToken("slack")) {
                takeDial(SLACK);
            } else if (isToken("left")) {
                takeRow(LEFT);
            } else if (isToken("right")) {
                takeRow(RIGHT);
            } else {
                fail(1, start);
            }
        }

        private void takeDial(int what) {
            told.dials[what] = takeNumber(DIAL_LOWEST[what], DIAL_HIGHEST[what]);
        }

        private void takePenalties() {
            int a = takeNumber(DIAL_LOWEST[PENALTY_A], DIAL_HIGHEST[PENALTY_A]);
            told.dials[PENALTY_A] = a;
            told.dials[PENALTY_B] = takeNumber(a, DIAL_HIGHEST[PENALTY_B]);
        }

        private void takeRow(int view) {
            int y = takeNumber(0, told.h - 1);
            if (fault != 0) {
                return;
            }
            advance();
            if (start == stop || isToken(";")) {
                fail(1, start);
                return;
            }
            if (stop - start != told.w) {
                fail(3, start);
                return;
            }
            for (int x = 0; x < told.w; x++) {
                int v = valueOf(tape.signAt(start + x));
                if (v == NONE) {
                    fail(3, start + x);
                    return;
                }
                told.values[spotOf(view, x, y)] = v;
            }
        }

        private int takeNumber(int lowest, int highest) {
            if (fault != 0) {
                return lowest;
            }
            advance();
            int number = numberTold();
            if (number == NONE) {
                fail(1, start);
                return lowest;
            }
            if (number < lowest || number > highest) {
                fail(2, start);
                return lowest;
            }
            return number;
        }

        private int numberTold() {
            if (stop - start < 1 || stop - start > 3) {
                return NONE;
            }
            int number = 0;
            for (int i = start; i < stop; i++) {
                int sign = tape.signAt(i);
                if (!isDigit(sign)) {
                    return NONE;
                }
                number = number * 10 + sign - '0';
            }
            return number;
        }

        private void advance() {
            start = stop;
            while (start < end && isBlank(tape.signAt(start))) {
                start++;
            }
            stop = start;
            if (start < end && tape.signAt(start) == ';') {
                stop = start + 1;
                return;
            }
            while (stop < end && isWordSign(tape.signAt(stop))) {
                stop++;
            }
        }

        private boolean isToken(String word) {
            if (stop - start != word.length()) {
                return false;
            }
            for (int i = 0; i < word.length(); i++) {
                if (tape.signAt(start + i) != word.charAt(i)) {
                    return false;
                }
            }
            return true;
        }

        private void fail(int kind, int place) {
            if (fault == 0) {
                fault = 8 * place + kind;
            }
        }

        private static boolean isBlank(int sign) {
            return sign == 32 || sign == 10;
        }

        private static boolean isDigit(int sign) {
            return sign >= '0' && sign <= '9';
        }

        private static boolean isWordSign(int sign) {
            return (sign >= '0' && sign <= '9') || (sign >= 'a' && sign <= 'z');
        }

        private static int valueOf(int sign) {
            if (isDigit(sign)) {
                return sign - '0';
            }
            return sign >= 'a' && sign <= 'f' ? sign - 'a' + 10 : NONE;
        }
    }

    /** What the latest ACTS found, in a ring: the oldest makes room. */
    private static final class Past {
        int held;
        private int next;
        private final Scene[] kept;

        Past() {
            kept = new Scene[UNDOABLE];
            for (int i = 0; i < UNDOABLE; i++) {
                kept[i] = new Scene();
            }
        }

        void keep(Scene now) {
            kept[next].become(now);
            next = next + 1 < UNDOABLE ? next + 1 : 0;
            held = Math.min(held + 1, UNDOABLE);
        }

        void giveBack(Scene now) {
            next = next > 0 ? next - 1 : UNDOABLE - 1;
            now.become(kept[next]);
            held--;
        }
    }

    private static final class Image {
        boolean made;
        final Scene scene;
        final Layers layers;

        Image() {
            scene = new Scene();
            layers = new Layers();
        }
    }

    /** Codes of both views, and what shifts cost and sum up to at places of the left one. */
    private static final class Matcher {
        final int[] codes;
        final int[] costs;
        final int[] sums;
        /** What one way tells; all ways use these cells, one after another. */
        final int[] told;
        private final Scene scene;
        private int toldWay;

        Matcher(Scene scene) {
            this.scene = scene;
            codes = new int[2 * PICTURE];
            costs = new int[PICTURE << SHIFT_BITS];
            sums = new int[PICTURE << SHIFT_BITS];
            told = new int[PICTURE << SHIFT_BITS];
            toldWay = NONE;
        }

        void makeCodes() {
            for (int y = 0; y < scene.h; y++) {
                for (int x = 0; x < scene.w; x++) {
                    codes[spotOf(LEFT, x, y)] = codeBits(LEFT, x, y);
                    codes[spotOf(RIGHT, x, y)] = codeBits(RIGHT, x, y);
                }
            }
        }

        private int codeBits(int view, int x, int y) {
            int far = scene.dials[WINDOW];
            int own = scene.values[spotOf(view, x, y)];
            int bits = 0;
            for (int j = y - far; j <= y + far; j++) {
                int line = spotOf(view, 0, nearest(j, scene.h - 1));
                for (int i = x - far; i <= x + far; i++) {
                    if (i != x || j != y) {
                        int other = scene.values[line + nearest(i, scene.w - 1)];
                        bits = (bits << 1) + (other < own ? 1 : 0);
                    }
                }
            }
            return bits;
        }

        private static int nearest(int n, int highest) {
            return n < 0 ? 0 : n > highest ? highest : n;
        }

        /** For every shift there could be, so that MOST may change without them. */
        void makeCosts() {
            for (int y = 0; y < scene.h; y++) {
                for (int x = 0; x < scene.w; x++) {
                    for (int d = 0; d < ALL_SHIFTS; d++) {
                        costs[cellOf(x, y, d)] = unlikeBits(x, y, d);
                    }
                }
            }
        }

        private int unlikeBits(int x, int y, int d) {
            if (x - d < 0) {
                return scene.bits();
            }
            return Integer.bitCount(codes[spotOf(LEFT, x, y)] ^ codes[spotOf(RIGHT, x - d, y)]);
        }

        int howOften(int view, int wanted) {
            int found = 0;
            for (int y = 0; y < scene.h; y++) {
                for (int x = 0; x < scene.w; x++) {
                    found += codes[spotOf(view, x, y)] == wanted ? 1 : 0;
                }
            }
            return found;
        }

        int unlikeCodes(int view) {
            int found = 0;
            for (int y = 0; y < scene.h; y++) {
                for (int x = 0; x < scene.w; x++) {
                    found += wasBefore(view, x, y) ? 0 : 1;
                }
            }
            return found;
        }

        private boolean wasBefore(int view, int px, int py) {
            int spot = spotOf(view, px, py);
            int wanted = codes[spot];
            for (int y = 0; y <= py; y++) {
                for (int x = 0; x < scene.w; x++) {
                    int before = spotOf(view, x, y);
                    if (before >= spot) {
                        return false;
                    }
                    if (codes[before] == wanted) {
                        return true;
                    }
                }
            }
            return false;
        }

        void forgetWay() {
            toldWay = NONE;
        }

        void makeSums() {
            for (int i = 0; i < PICTURE << SHIFT_BITS; i++) {
                sums[i] = 0;
            }
            for (int way = 0; way < WAYS; way++) {
                if ((scene.dials[PATHS] >> way & 1) == 1) {
                    tell(way);
                    addTold();
                }
            }
        }

        private void addTold() {
            for (int y = 0; y < scene.h; y++) {
                int from = cellOf(0, y, 0);
                int to = cellOf(scene.w - 1, y, ALL_SHIFTS - 1);
                for (int i = from; i <= to; i++) {
                    sums[i] += told[i];
                }
            }
        }

        void tell(int way) {
            if (toldWay == way) {
                return;
            }
            int dx = WAY_X[way];
            int dy = WAY_Y[way];
            for (int j = 0; j < scene.h; j++) {
                int y = dy < 0 ? scene.h - 1 - j : j;
                for (int i = 0; i < scene.w; i++) {
                    int x = dx < 0 ? scene.w - 1 - i : i;
                    if (scene.hasSpot(x - dx, y - dy)) {
                        goOn(cellOf(x, y, 0), cellOf(x - dx, y - dy, 0));
                    } else {
                        begin(cellOf(x, y, 0));
                    }
                }
            }
            toldWay = way;
        }

        private void begin(int cell) {
            for (int d = 0; d <= scene.dials[MOST]; d++) {
                told[cell + d] = costs[cell + d];
            }
        }

        private void goOn(int cell, int ahead) {
            int most = scene.dials[MOST];
            int a = scene.dials[PENALTY_A];
            int least = told[ahead];
            for (int d = 1; d <= most; d++) {
                least = Math.min(least, told[ahead + d]);
            }
            int jump = least + scene.dials[PENALTY_B];
            for (int d = 0; d <= most; d++) {
                int best = Math.min(jump, told[ahead + d]);
                if (d > 0) {
                    best = Math.min(best, told[ahead + d - 1] + a);
                }
                if (d < most) {
                    best = Math.min(best, told[ahead + d + 1] + a);
                }
                told[cell + d] = costs[cell + d] + best - least;
            }
        }
    }

    /** What is known of each place of both views. */
    private static final class Maps {
        final int[] shifts;
        final int[] kinds;
        final int[] filled;
        private final Scene scene;
        private final Matcher matcher;
        private final int[] found;

        Maps(Scene scene, Matcher matcher) {
            this.scene = scene;
            this.matcher = matcher;
            shifts = new int[2 * PICTURE];
            kinds = new int[2 * PICTURE];
            filled = new int[2 * PICTURE];
            found = new int[ALL_SHIFTS];
        }

        void makeShifts() {
            for (int y = 0; y < scene.h; y++) {
                for (int x = 0; x < scene.w; x++) {
                    shifts[spotOf(LEFT, x, y)] = bestOfLeft(x, y);
                    shifts[spotOf(RIGHT, x, y)] = bestOfRight(x, y);
                }
            }
        }

        private int bestOfLeft(int x, int y) {
            int cell = cellOf(x, y, 0);
            int best = 0;
            for (int d = 1; d <= scene.dials[MOST]; d++) {
                if (matcher.sums[cell + d] < matcher.sums[cell + best]) {
                    best = d;
                }
            }
            return best;
        }

        private int bestOfRight(int x, int y) {
            int best = 0;
            for (int d = 1; d <= scene.dials[MOST] && x + d < scene.w; d++) {
                if (matcher.sums[cellOf(x + d, y, d)] < matcher.sums[cellOf(x + best, y, best)]) {
                    best = d;
                }
            }
            return best;
        }

        int marginAt(int x, int y) {
            int own = shifts[spotOf(LEFT, x, y)];
            int cell = cellOf(x, y, 0);
            int best = NONE;
            for (int d = 0; d <= scene.dials[MOST]; d++) {
                int more = matcher.sums[cell + d] - matcher.sums[cell + own];
                if (Math.abs(d - own) >= 2 && (best == NONE || more < best)) {
                    best = more;
                }
            }
            return best;
        }

        int fineAt(int x, int y) {
            int own = shifts[spotOf(LEFT, x, y)];
            if (own < 1 || own >= scene.dials[MOST]) {
                return 16 * own;
            }
            int cell = cellOf(x, y, own);
            int l = matcher.sums[cell - 1];
            int c = matcher.sums[cell];
            int r = matcher.sums[cell + 1];
            int bend = l + r - 2 * c;
            return bend > 0 ? 16 * own + Math.floorDiv(8 * (l - r), bend) : 16 * own;
        }

        void makeKinds() {
            for (int y = 0; y < scene.h; y++) {
                for (int x = 0; x < scene.w; x++) {
                    kinds[spotOf(LEFT, x, y)] = kindBySight(LEFT, x, y);
                    kinds[spotOf(RIGHT, x, y)] = kindBySight(RIGHT, x, y);
                }
            }
        }

        private int kindBySight(int view, int x, int y) {
            int own = shifts[spotOf(view, x, y)];
            int there = shiftSeen(view, x, y, own);
            if (there != NONE && Math.abs(there - own) <= scene.dials[SLACK]) {
                return SURE;
            }
            for (int d = 0; d <= scene.dials[MOST]; d++) {
                if (shiftSeen(view, x, y, d) == d) {
                    return UNLIKE;
                }
            }
            return HIDDEN;
        }

        /** The other view's shift, where a place would be seen by a shift d. */
        private int shiftSeen(int view, int x, int y, int d) {
            int there = view == LEFT ? x - d : x + d;
            return scene.hasSpot(there, y) ? shifts[spotOf(1 - view, there, y)] : NONE;
        }

        int howManyOf(int view, int kind) {
            int number = 0;
            for (int y = 0; y < scene.h; y++) {
                for (int x = 0; x < scene.w; x++) {
                    number += kinds[spotOf(view, x, y)] == kind ? 1 : 0;
                }
            }
            return number;
        }

        void makeFilled() {
            for (int y = 0; y < scene.h; y++) {
                for (int x = 0; x < scene.w; x++) {
                    filled[spotOf(LEFT, x, y)] = fillingOf(LEFT, x, y);
                    filled[spotOf(RIGHT, x, y)] = fillingOf(RIGHT, x, y);
                }
            }
        }

        private int fillingOf(int view, int x, int y) {
            int spot = spotOf(view, x, y);
            if (kinds[spot] == SURE) {
                return shifts[spot];
            }
            return kinds[spot] == HIDDEN ? lesserBeside(view, x, y) : middleAround(view, x, y);
        }

        private int lesserBeside(int view, int x, int y) {
            int before = nearestSure(view, x, y, TO_THE_LEFT);
            int behind = nearestSure(view, x, y, TO_THE_RIGHT);
            if (before == NONE) {
                return Math.max(behind, 0);
            }
            return behind == NONE ? before : Math.min(before, behind);
        }

        private int middleAround(int view, int x, int y) {
            for (int d = 0; d < ALL_SHIFTS; d++) {
                found[d] = 0;
            }
            int number = 0;
            for (int way = 0; way < WAYS; way++) {
                int near = nearestSure(view, x, y, way);
                if (near != NONE) {
                    found[near]++;
                    number++;
                }
            }
            int upTo = 0;
            for (int d = 0; d < ALL_SHIFTS; d++) {
                upTo += found[d];
                if (number > 0 && 2 * upTo >= number) {
                    return d;
                }
            }
            return 0;
        }

        private int nearestSure(int view, int x, int y, int way) {
            for (int far = 1; far < MOST_WIDE; far++) {
                int i = x + far * WAY_X[way];
                int j = y + far * WAY_Y[way];
                if (!scene.hasSpot(i, j)) {
                    return NONE;
                }
                if (kinds[spotOf(view, i, j)] == SURE) {
                    return shifts[spotOf(view, i, j)];
                }
            }
            return NONE;
        }

        int valueBetween(int t, int x, int y) {
            int from = comesFrom(LEFT, t, x, y);
            if (from != NONE) {
                return scene.values[spotOf(LEFT, from, y)];
            }
            from = comesFrom(RIGHT, t, x, y);
            return from == NONE ? HOLE : scene.values[spotOf(RIGHT, from, y)];
        }

        private int comesFrom(int view, int t, int x, int y) {
            int best = NONE;
            int greatest = NONE;
            for (int i = 0; i < scene.w; i++) {
                int shift = filled[spotOf(view, i, y)];
                int to = view == LEFT ? i - quarters(t, shift) : i + quarters(QUARTERS - t, shift);
                if (to == x && shift > greatest) {
                    best = i;
                    greatest = shift;
                }
            }
            return best;
        }

        private static int quarters(int t, int shift) {
            return (t * shift + 2) >> 2;
        }

        /** What a map of the left view costs with the steps in it. */
        int priceOf(int[] map) {
            int price = 0;
            for (int y = 0; y < scene.h; y++) {
                for (int x = 0; x < scene.w; x++) {
                    int own = map[spotOf(LEFT, x, y)];
                    price += matcher.costs[cellOf(x, y, own)];
                    if (x + 1 < scene.w) {
                        price += scene.stepPrice(own, map[spotOf(LEFT, x + 1, y)]);
                    }
                    if (y + 1 < scene.h) {
                        price += scene.stepPrice(own, map[spotOf(LEFT, x, y + 1)]);
                    }
                }
            }
            return price;
        }
    }

    /** Pieces are numbered as their first places lie, so that the lesser number comes first. */
    private static final class Pieces {
        private final Scene scene;
        private final Maps maps;
        private final int[] pieceOf;
        private final int[] sizes;
        private final int[] made;
        private final int[] waiting;
        private int waits;

        Pieces(Scene scene, Maps maps) {
            this.scene = scene;
            this.maps = maps;
            pieceOf = new int[2 * PICTURE];
            sizes = new int[2 * PICTURE];
            made = new int[2];
            waiting = new int[PICTURE];
        }

        void makePieces(int view) {
            made[view] = 0;
            for (int i = 0; i < PICTURE; i++) {
                pieceOf[view * PICTURE + i] = NONE;
            }
            for (int y = 0; y < scene.h; y++) {
                for (int x = 0; x < scene.w; x++) {
                    int spot = spotOf(view, x, y);
                    if (maps.kinds[spot] == SURE && pieceOf[spot] == NONE) {
                        grow(view, x, y);
                    }
                }
            }
            dropSmall(view);
        }

        private void grow(int view, int x, int y) {
            int number = made[view];
            waits = 0;
            join(view, x, y, number);
            for (int i = 0; i < waits && i < PICTURE; i++) {
                lookAround(view, waiting[i], number);
            }
            sizes[view * PICTURE + number] = waits;
            made[view] = number + 1;
        }

        private void join(int view, int x, int y, int number) {
            pieceOf[spotOf(view, x, y)] = number;
            waiting[waits] = spotOf(LEFT, x, y);
            waits++;
        }

        private void lookAround(int view, int place, int number) {
            int x = place & (MOST_WIDE - 1);
            int y = place >> ROW_BITS;
            int own = maps.shifts[spotOf(view, x, y)];
            for (int side = 0; side < SIDES; side++) {
                int i = x + WAY_X[side];
                int j = y + WAY_Y[side];
                if (scene.hasSpot(i, j) && isFree(spotOf(view, i, j), own)) {
                    join(view, i, j, number);
                }
            }
        }

        private boolean isFree(int spot, int near) {
            return maps.kinds[spot] == SURE && pieceOf[spot] == NONE
                && Math.abs(maps.shifts[spot] - near) <= 1;
        }

        private void dropSmall(int view) {
            for (int y = 0; y < scene.h; y++) {
                for (int x = 0; x < scene.w; x++) {
                    int spot = spotOf(view, x, y);
                    if (pieceOf[spot] != NONE && !stays(view, pieceOf[spot])) {
                        maps.kinds[spot] = UNLIKE;
                    }
                }
            }
        }

        private boolean stays(int view, int number) {
            return sizes[view * PICTURE + number] >= scene.dials[LEAST];
        }

        int sizeAt(int spot, int view) {
            return pieceOf[spot] == NONE ? 0 : sizes[view * PICTURE + pieceOf[spot]];
        }

        int howManyStay(int view) {
            int number = 0;
            for (int i = 0; i < made[view]; i++) {
                number += stays(view, i) ? 1 : 0;
            }
            return number;
        }

        int greatest(int view) {
            int first = ranked(view, 0);
            return first == NONE ? 0 : sizes[view * PICTURE + first];
        }

        int ranked(int view, int rank) {
            for (int i = 0; i < made[view]; i++) {
                if (stays(view, i) && howManyBefore(view, i) == rank) {
                    return i;
                }
            }
            return NONE;
        }

        private int howManyBefore(int view, int number) {
            int own = sizes[view * PICTURE + number];
            int before = 0;
            for (int i = 0; i < made[view]; i++) {
                int other = sizes[view * PICTURE + i];
                before += other > own || (other == own && i < number) ? 1 : 0;
            }
            return before;
        }

        int tellOf(int view, int number, int what) {
            int firstX = NONE;
            int firstY = NONE;
            int leastX = MOST_WIDE;
            int greatestX = 0;
            int greatestY = 0;
            int together = 0;
            for (int y = 0; y < scene.h; y++) {
                for (int x = 0; x < scene.w; x++) {
                    int spot = spotOf(view, x, y);
                    if (pieceOf[spot] == number) {
                        firstX = firstX == NONE ? x : firstX;
                        firstY = firstY == NONE ? y : firstY;
                        leastX = Math.min(leastX, x);
                        greatestX = Math.max(greatestX, x);
                        greatestY = y;
                        together += maps.shifts[spot];
                    }
                }
            }
            switch (what) {
                case 0:
                    return sizes[view * PICTURE + number];
                case 1:
                    return firstX;
                case 2:
                case 4:
                    // row by row, the first place is one of the upmost
                    return firstY;
                case 3:
                    return leastX;
                case 5:
                    return greatestX;
                case 6:
                    return greatestY;
                default:
                    return together;
            }
        }
    }

    /** The best of one row of the left view, whatever the other rows are. */
    private static final class RowChoice {
        final int[] chosen;
        private final Scene scene;
        private final Matcher matcher;
        private final int[] totals;

        RowChoice(Scene scene, Matcher matcher) {
            this.scene = scene;
            this.matcher = matcher;
            chosen = new int[MOST_WIDE];
            totals = new int[MOST_WIDE << SHIFT_BITS];
        }

        /** Of like ones the least, from the right end on: so the row is gone back that way. */
        int choose(int y) {
            int most = scene.dials[MOST];
            int last = scene.w - 1;
            for (int x = 0; x <= last; x++) {
                for (int d = 0; d <= most; d++) {
                    int before = x == 0 ? 0 : priceBefore(x, bestBefore(x, d), d);
                    totals[(x << SHIFT_BITS) + d] = matcher.costs[cellOf(x, y, d)] + before;
                }
            }
            int end = last << SHIFT_BITS;
            int best = 0;
            for (int d = 1; d <= most; d++) {
                best = totals[end + d] < totals[end + best] ? d : best;
            }
            chosen[last] = best;
            for (int x = last; x > 0; x--) {
                chosen[x - 1] = bestBefore(x, chosen[x]);
            }
            return totals[end + best];
        }

        private int bestBefore(int x, int d) {
            int best = 0;
            for (int i = 1; i <= scene.dials[MOST]; i++) {
                best = priceBefore(x, i, d) < priceBefore(x, best, d) ? i : best;
            }
            return best;
        }

        private int priceBefore(int x, int from, int to) {
            return totals[((x - 1) << SHIFT_BITS) + from] + scene.stepPrice(from, to);
        }
    }

    /** Votes for lines of the ground, by how often each row has each shift. */
    private static final class Lines {
        private final Scene scene;
        private final Maps maps;
        private final int[] inRow;

        Lines(Scene scene, Maps maps) {
            this.scene = scene;
            this.maps = maps;
            inRow = new int[MOST_HIGH << SHIFT_BITS];
        }

        int gather() {
            for (int i = 0; i < MOST_HIGH << SHIFT_BITS; i++) {
                inRow[i] = 0;
            }
            int sure = 0;
            for (int y = 0; y < scene.h; y++) {
                for (int x = 0; x < scene.w; x++) {
                    int spot = spotOf(LEFT, x, y);
                    if (maps.kinds[spot] == SURE) {
                        inRow[(y << SHIFT_BITS) + maps.shifts[spot]]++;
                        sure++;
                    }
                }
            }
            return sure;
        }

        int votesFor(int p, int q) {
            int number = 0;
            for (int y = 0; y < scene.h; y++) {
                int shift = (p + q * y + 4) >> 3;
                if (scene.isShift(shift)) {
                    number += inRow[(y << SHIFT_BITS) + shift];
                }
            }
            return number;
        }

        int bestLine(int what) {
            if (gather() == 0) {
                return NONE;
            }
            int bestP = 0;
            int bestQ = 0;
            int most = NONE;
            for (int q = 0; q <= STEEPEST; q++) {
                for (int p = 0; p <= STEEPEST * scene.dials[MOST]; p++) {
                    int number = votesFor(p, q);
                    if (number > most) {
                        bestP = p;
                        bestQ = q;
                        most = number;
                    }
                }
            }
            if (what == 2) {
                return most;
            }
            return what == 0 ? bestP : bestQ;
        }
    }
}
