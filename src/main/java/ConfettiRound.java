import java.util.Arrays;

/**
 * Confetti stamped out of letters, and the pickers who get it up by dusk. What each call promises
 * stands in the document; words in capitals here mean what they mean there.
 */
public final class ConfettiRound {
    public static final int NONE = -1;

    private static final int NOTHING = -2;
    private static final int TOO_MANY = -3;

    private static final int WIDTH = 10;
    private static final int HEIGHT = 8;
    private static final int CELLS = WIDTH * HEIGHT;

    private static final int LETTERS = 4;
    private static final int WORDS = 8;
    private static final int PICKERS = 4;
    private static final int NAME_SIGNS = 8;
    private static final int PIECES = LETTERS * NAME_SIGNS;
    private static final int SIGNS = 26;
    private static final int MOST_HAT = 32;

    private static final int TAPE_BYTES = 2000;
    private static final int FEED_BYTES = 20;
    private static final int TOKENS = 400;
    private static final int IFS = 4;
    private static final int WITHIN = 6;

    private static final int SYNTAX = 1;
    private static final int ROOM = 2;
    private static final int TWICE = 3;
    private static final int WRONG = 5;

    /** Kinds of TOKENS; a SIGN's kind is its byte, a quoted word's kind is QUOTED and its number. */
    private static final int END = 0;
    private static final int BAD = 1;
    private static final int NAME = 2;
    private static final int INT = 3;
    private static final int QUOTED = 256;
    private static final int LETTER = QUOTED;
    private static final int WORD = QUOTED + 1;
    private static final int PICKER = QUOTED + 2;
    private static final int FIRST_LAW = QUOTED + 3;
    private static final int WIND = QUOTED + 6;
    private static final int RAIN = QUOTED + 7;
    private static final int SEED = QUOTED + 8;
    private static final int IF = QUOTED + 9;
    private static final int THEN = QUOTED + 10;
    private static final int ELSE = QUOTED + 11;
    private static final int FIRST_VAR = QUOTED + 12;
    private static final int QUOTED_WORDS = 21;
    private static final String QUOTED_TEXT = "letter word picker blows takes pays wind rain seed if then else sign across down hour lain hat has here which ";

    private static final int LAWS = 3;
    private static final int BLOWS = 0;
    private static final int TAKES = 1;
    private static final int PAYS = 2;

    private static final int VARS = 9;
    private static final int VAR_SIGN = 0;
    private static final int VAR_ACROSS = 1;
    private static final int VAR_DOWN = 2;
    private static final int VAR_HOUR = 3;
    private static final int VAR_LAIN = 4;
    private static final int VAR_HAT = 5;
    private static final int VAR_HAS = 6;
    private static final int VAR_HERE = 7;
    private static final int VAR_WHICH = 8;

    /** What a LAW is made of, operands first: an INT as it is, all else below 0. */
    private static final int ADD = -1;
    private static final int SUBTRACT = -2;
    private static final int MULTIPLY = -3;
    private static final int DIVIDE = -4;
    private static final int UNLESS_LESS = -5;
    private static final int ANSWER = -6;
    private static final int VAR = -7;
    /** No text makes more entries than it has TOKENS; the LAWS that hold if none is told need four more. */
    private static final int CODE = TOKENS + 8;
    private static final int STACK = 32;

    private static final int MOST_LAIN = 999;
    private static final int MOST_MONEY = 99;
    private static final int MOST_RAIN = 100;
    private static final int MOST_SEED = 9999;
    private static final int MOST_WIND = 2;
    private static final int MOST_HOURS = 40;
    private static final int MOST_STAND = 12;
    private static final int MOST_LATE = 100;
    private static final int MOST_SEEDS = 20;
    private static final int TOUR_CELLS = 10;
    /** More than any STEPS, and any LOSS with its cell, can come to. */
    private static final int BEYOND = 1000000;
    private static final int PAST = 40;
    private static final int SLOTS = 3;
    private static final int TOLD = 20;
    private static final int LYING_HEAP = 4;
    private static final int HEAPS = 6;

    private final Tape tape = new Tape();
    private final Reader reader = new Reader();
    private Text text = new Text();
    private Text spare = new Text();
    private final Yard yard = new Yard();
    private final Yard would = new Yard();
    private final Past past = new Past();
    private final Yard[] slots = new Yard[SLOTS];
    private int slotsHeld;
    private final Weather weather = new Weather();
    private final Tours tours = new Tours();
    private final Heap heapOfSigns = new Heap();
    private final Told told = new Told();
    private final int[] lying = new int[CELLS];
    private int faultPlace = NONE;

    public ConfettiRound() {
        yard.begin(text);
    }

    public int feed(int a, int b, int c, int d, int e) {
        if (tape.length + FEED_BYTES > TAPE_BYTES) {
            return NONE;
        }
        tape.add(a);
        tape.add(b);
        tape.add(c);
        tape.add(d);
        tape.add(e);
        return tape.length;
    }

    public int back(int n) {
        if (n < 0 || n > tape.length) {
            return NONE;
        }
        tape.length -= n;
        return tape.length;
    }

    public int read() {
        int fault = reader.fill(spare, tape);
        tape.length = 0;
        faultPlace = NONE;
        if (fault != 0) {
            faultPlace = reader.place;
            return fault;
        }
        Text old = text;
        text = spare;
        spare = old;
        yard.begin(text);
        past.size = 0;
        told.size = 0;
        slotsHeld = 0;
        return 0;
    }

    public int place() {
        return faultPlace;
    }

    public int piece(int piece, int what) {
        if (!isPiece(piece)) {
            return NONE;
        }
        boolean onGround = yard.isLying(piece);
        int cell = yard.cellOf(piece);
        switch (what) {
            case 0:
                return text.sign[piece];
            case 1:
                return text.letterOf[piece];
            case 2:
                return cell % WIDTH;
            case 3:
                return cell / WIDTH;
            case 4:
                return yard.holder(piece);
            case 5:
                return yard.lain[piece];
            case 6:
                return onGround && weather.lawOfPiece(BLOWS, text, yard, piece) > 0 ? 1 : 0;
            case 7:
                return onGround ? money(weather.lawOfPiece(TAKES, text, yard, piece)) : 0;
            default:
                return NONE;
        }
    }

    public int picker(int picker, int what) {
        if (!isPicker(picker)) {
            return NONE;
        }
        int goal = yard.goal[picker];
        switch (what) {
            case 0:
                return yard.at[picker] % WIDTH;
            case 1:
                return yard.at[picker] / WIDTH;
            case 2:
                return text.hat[picker];
            case 3:
                return yard.has[picker];
            case 4:
                return goal == NOTHING ? NOTHING : goal % WIDTH;
            case 5:
                return goal == NOTHING ? NOTHING : goal / WIDTH;
            case 6:
                return weather.owed(text, yard, picker);
            default:
                return NONE;
        }
    }

    public int lies(int x, int y) {
        if (!isCell(x, y)) {
            return NONE;
        }
        return yard.countAt(WIDTH * y + x);
    }

    public boolean send(int picker, int x, int y) {
        if (!isPicker(picker) || x != NONE && !isCell(x, y)) {
            return false;
        }
        int cell = x == NONE ? NOTHING : WIDTH * y + x;
        int goal = cell == yard.at[picker] ? NOTHING : cell;
        if (goal == yard.goal[picker]) {
            return false;
        }
        past.keep(yard);
        yard.goal[picker] = goal;
        return true;
    }

    public boolean drop(int piece) {
        if (!isPiece(piece) || yard.isLying(piece)) {
            return false;
        }
        past.keep(yard);
        yard.layDown(piece);
        return true;
    }

    public int give(int picker, int other) {
        if (!isPicker(picker) || !isPicker(other) || picker == other) {
            return NONE;
        }
        past.keep(yard);
        int given = 0;
        for (int i = 0; i < yard.pieces; i++) {
            if (yard.holder(i) == picker && yard.has[other] < text.hat[other]) {
                yard.has[picker]--;
                yard.putInHat(i, other);
                given++;
            }
        }
        return given;
    }

    public int hours(int n) {
        if (n < 0 || n > MOST_HOURS) {
            return NONE;
        }
        if (n > 0) {
            past.keep(yard);
            weather.goOn(text, yard, n, text.seed);
        }
        return yard.hour;
    }

    public boolean undo() {
        return past.bringBack(yard);
    }

    public int steps(int picker, int x, int y) {
        if (!isPicker(picker) || !isCell(x, y)) {
            return NONE;
        }
        return apart(yard.at[picker], WIDTH * y + x);
    }

    public int round(int picker, int what) {
        if (!isPicker(picker) || what < 0 || what > 1) {
            return NONE;
        }
        int start = yard.at[picker];
        if (!tours.gather(yard, start)) {
            return TOO_MANY;
        }
        return what == 0 ? tours.fewest(start, tours.all()) : tours.firstCell(start);
    }

    public int share(int picker, int other) {
        if (!isPicker(picker) || !isPicker(other) || picker == other) {
            return NONE;
        }
        if (!tours.gather(yard, NOTHING)) {
            return TOO_MANY;
        }
        return tours.shared(yard.at[picker], yard.at[other]);
    }

    public int closest(int x, int y) {
        if (!isCell(x, y)) {
            return NONE;
        }
        int best = NOTHING;
        int fewest = CELLS;
        for (int i = 0; i < yard.pickers; i++) {
            int far = apart(yard.at[i], WIDTH * y + x);
            if (far < fewest) {
                fewest = far;
                best = i;
            }
        }
        return best;
    }

    public int richest(int what) {
        if (what < 0 || what > 1) {
            return NONE;
        }
        yard.countAll(lying);
        int best = NOTHING;
        int most = 0;
        for (int cell = 0; cell < CELLS; cell++) {
            if (lying[cell] > most) {
                most = lying[cell];
                best = cell;
            }
        }
        return what == 0 || best == NOTHING ? best : most;
    }

    public int made(int heap) {
        if (!isHeap(heap)) {
            return NONE;
        }
        heapOfSigns.gather(text, yard, heap);
        return heapOfSigns.makes(text);
    }

    public int together(int what) {
        if (what < 0 || what > 1) {
            return NONE;
        }
        heapOfSigns.gather(text, yard, HEAPS - 1);
        int set = heapOfSigns.mostAtOnce(text);
        return what == 0 ? Integer.bitCount(set) : set;
    }

    public int missing(int word, int heap) {
        if (word < 0 || word >= text.words || !isHeap(heap)) {
            return NONE;
        }
        heapOfSigns.gather(text, yard, heap);
        return heapOfSigns.lacks(text.word[word]);
    }

    public int longest(int heap) {
        if (!isHeap(heap)) {
            return NONE;
        }
        heapOfSigns.gather(text, yard, heap);
        int makes = heapOfSigns.makes(text);
        int best = NOTHING;
        int most = 0;
        for (int i = 0; i < text.words; i++) {
            int length = nameLength(text.word[i]);
            if ((makes >> i & 1) == 1 && length > most) {
                most = length;
                best = i;
            }
        }
        return best;
    }

    public int whole() {
        int bits = (1 << text.letters) - 1;
        for (int i = 0; i < yard.pieces; i++) {
            if (yard.isLying(i)) {
                bits &= ~(1 << text.letterOf[i]);
            }
        }
        return bits;
    }

    public int loss(int n) {
        if (n < 0 || n > MOST_HOURS) {
            return NONE;
        }
        would.copy(yard);
        weather.goOn(text, would, n, NONE);
        return weather.takesOfAll(text, would);
    }

    public int stand(int picker, int n, int what) {
        if (!isPicker(picker) || n < 1 || n > MOST_STAND || what < 0 || what > 1) {
            return NONE;
        }
        // The LOSS counts before the cell, so the least of both in one number is the best cell.
        int best = BEYOND;
        for (int cell = 0; cell < CELLS && best >= CELLS; cell++) {
            would.copy(yard);
            would.goal[picker] = cell == yard.at[picker] ? NOTHING : cell;
            weather.goOn(text, would, n, NONE);
            best = Math.min(best, weather.takesOfAll(text, would) * CELLS + cell);
        }
        return what == 0 ? best % CELLS : best / CELLS;
    }

    public int late() {
        would.copy(yard);
        for (int n = 0; n <= MOST_LATE; n++) {
            if (would.countLying() == 0) {
                return n;
            }
            weather.goOn(text, would, 1, NONE);
        }
        return NOTHING;
    }

    public int pieceIn(int piece, int n, int what) {
        if (!isPiece(piece) || n < 0 || n > MOST_HOURS || what < 0 || what > 2) {
            return NONE;
        }
        would.copy(yard);
        weather.goOn(text, would, n, text.seed);
        if (what == 2) {
            return would.holder(piece);
        }
        int cell = would.cellOf(piece);
        return what == 0 ? cell % WIDTH : cell / WIDTH;
    }

    public int pickerIn(int picker, int n, int what) {
        if (!isPicker(picker) || n < 0 || n > MOST_HOURS || what < 0 || what > 2) {
            return NONE;
        }
        would.copy(yard);
        weather.goOn(text, would, n, text.seed);
        if (what == 2) {
            return would.has[picker];
        }
        int cell = would.at[picker];
        return what == 0 ? cell % WIDTH : cell / WIDTH;
    }

    public int year(int n, int s) {
        if (n < 0 || n > MOST_HOURS || s < 1 || s > MOST_SEEDS) {
            return NONE;
        }
        // No RAIN, or nothing but RAIN: all SEEDS go alike.
        boolean alike = text.rain <= 0 || text.rain >= MOST_RAIN;
        int clean = 0;
        for (int i = 0; i < (alike ? 1 : s); i++) {
            would.copy(yard);
            weather.goOn(text, would, n, text.seed + i);
            if (would.countLying() == 0) {
                clean++;
            }
        }
        return alike ? clean * s : clean;
    }

    public int tell(int sign, boolean has) {
        if (sign < 1 || sign > SIGNS || told.size >= TOLD) {
            return NONE;
        }
        return told.add(sign, has);
    }

    public int forget() {
        int were = told.size;
        told.size = 0;
        return were;
    }

    public int written(int k, int what) {
        if (k < 0 || k > told.size || what < 0 || what > 1) {
            return NONE;
        }
        int bits = told.left(text, k);
        return what == 0 ? Integer.bitCount(bits) : bits;
    }

    public int ask(int k) {
        if (k < 0 || k > told.size) {
            return NONE;
        }
        return told.bestQuestion(text, told.left(text, k));
    }

    public boolean hold(int slot) {
        if (slot < 0 || slot >= SLOTS) {
            return false;
        }
        if (slots[slot] == null) {
            slots[slot] = new Yard();
        }
        slots[slot].copy(yard);
        slotsHeld |= 1 << slot;
        return true;
    }

    public boolean restore(int slot) {
        if (slot < 0 || slot >= SLOTS || (slotsHeld >> slot & 1) == 0 || slots[slot] == null) {
            return false;
        }
        yard.copy(slots[slot]);
        past.size = 0;
        return true;
    }

    public int count(int what) {
        switch (what) {
            case 0:
                return text.letters;
            case 1:
                return text.pieces;
            case 2:
                return text.words;
            case 3:
                return text.pickers;
            case 4:
                return yard.hour;
            case 5:
                return yard.countLying();
            case 6:
                return yard.countCells(lying);
            case 7:
                return owedToAll();
            case 8:
                return tape.length;
            case 9:
                return past.size;
            case 10:
                return told.size;
            case 11:
                return Integer.bitCount(slotsHeld);
            case 12:
                return rains(text, text.seed, yard.hour) ? 1 : 0;
            case 13:
                return pickersWithGoal();
            case 14:
                return pickersWithFullHat();
            default:
                return NONE;
        }
    }

    private int owedToAll() {
        int sum = 0;
        for (int i = 0; i < yard.pickers; i++) {
            sum += weather.owed(text, yard, i);
        }
        return sum;
    }

    private int pickersWithGoal() {
        int bits = 0;
        for (int i = 0; i < yard.pickers; i++) {
            if (yard.goal[i] != NOTHING) {
                bits |= 1 << i;
            }
        }
        return bits;
    }

    private int pickersWithFullHat() {
        int bits = 0;
        for (int i = 0; i < yard.pickers; i++) {
            if (yard.has[i] >= text.hat[i]) {
                bits |= 1 << i;
            }
        }
        return bits;
    }

    private boolean isPiece(int piece) {
        return piece >= 0 && piece < yard.pieces;
    }

    private boolean isPicker(int picker) {
        return picker >= 0 && picker < yard.pickers;
    }

    private boolean isHeap(int heap) {
        return isPicker(heap) || heap >= LYING_HEAP && heap < HEAPS;
    }

    private static boolean isCell(int x, int y) {
        return x >= 0 && x < WIDTH && y >= 0 && y < HEIGHT;
    }

    private static int apart(int cell, int other) {
        return Math.abs(cell % WIDTH - other % WIDTH) + Math.abs(cell / WIDTH - other / WIDTH);
    }

    private static int held(int value, int most) {
        return Math.max(0, Math.min(most, value));
    }

    private static int money(int value) {
        return held(value, MOST_MONEY);
    }

    private static boolean rains(Text text, int seed, int hour) {
        return lot(100, seed, 4 * hour) < text.rain;
    }

    private static int lot(int n, int seed, int which) {
        int h = stirred(stirred(seed, 145), which);
        return n > 0 ? (h >>> 1) % n : 0;
    }

    private static int stirred(int h, int with) {
        int mixed = (h ^ with) * 1103515245 + 12345;
        return mixed ^ mixed >>> 15;
    }

    /** A NAME is held in a long, its first sign in the lowest five bits. */
    private static int signAt(long name, int i) {
        return i < 0 || i >= NAME_SIGNS ? 0 : (int) (name >>> 5 * i) & 31;
    }

    private static long withSign(long name, int i, int sign) {
        return i < 0 || i >= NAME_SIGNS ? name : name | (long) sign << 5 * i;
    }

    private static int nameLength(long name) {
        int length = 0;
        while (length < NAME_SIGNS && signAt(name, length) != 0) {
            length++;
        }
        return length;
    }

    /** Bytes behind its length are left as they are: they have gone. */
    private static final class Tape {
        final byte[] bytes = new byte[TAPE_BYTES];
        int length;

        void add(int four) {
            for (int shift = 24; shift >= 0 && length < TAPE_BYTES; shift -= 8) {
                bytes[length] = (byte) (four >>> shift);
                length++;
            }
        }

        int byteAt(int i) {
            return i < 0 || i >= length || i >= TAPE_BYTES ? NONE : bytes[i] & 255;
        }
    }

    /** The TOKENS of a tape, up to the first that is none, its end, or one more than there may be. */
    private static final class Tokens {
        final int[] kind = new int[TOKENS + 1];
        final int[] place = new int[TOKENS + 1];
        final long[] value = new long[TOKENS + 1];
        private final long[] quoted = new long[QUOTED_WORDS];
        private int at;

        Tokens() {
            int word = 0;
            int sign = 0;
            for (int i = 0; i < QUOTED_TEXT.length() && word < QUOTED_WORDS; i++) {
                char c = QUOTED_TEXT.charAt(i);
                if (c == ' ') {
                    word++;
                    sign = 0;
                } else {
                    quoted[word] = withSign(quoted[word], sign, c - 'a' + 1);
                    sign++;
                }
            }
        }

        void split(Tape tape) {
            at = 0;
            boolean more = true;
            for (int n = 0; n <= TOKENS && more; n++) {
                while (at < tape.length && isBlank(tape.byteAt(at))) {
                    at++;
                }
                place[n] = at;
                value[n] = 0;
                kind[n] = at >= tape.length ? END : kindFrom(tape, n);
                more = kind[n] != END && kind[n] != BAD;
            }
        }

        private int kindFrom(Tape tape, int n) {
            int first = tape.byteAt(at);
            if (isLetter(first)) {
                return nameKind(tape, n);
            }
            if (isDigit(first)) {
                return intKind(tape, n);
            }
            at++;
            return isSign(first) ? first : BAD;
        }

        private int nameKind(Tape tape, int n) {
            int length = 0;
            long name = 0;
            while (at < tape.length && isLetter(tape.byteAt(at))) {
                name = withSign(name, length, tape.byteAt(at) - 'a' + 1);
                length++;
                at++;
            }
            if (length > NAME_SIGNS) {
                return BAD;
            }
            value[n] = name;
            for (int i = 0; i < QUOTED_WORDS; i++) {
                if (quoted[i] == name) {
                    return QUOTED + i;
                }
            }
            return NAME;
        }

        private int intKind(Tape tape, int n) {
            int length = 0;
            int number = 0;
            while (at < tape.length && isDigit(tape.byteAt(at))) {
                number = number * 10 + tape.byteAt(at) - '0';
                length++;
                at++;
            }
            value[n] = number;
            return length > 4 ? BAD : INT;
        }

        private static boolean isBlank(int c) {
            return c == 9 || c == 10 || c == 13 || c == 32;
        }

        private static boolean isLetter(int c) {
            return c >= 'a' && c <= 'z';
        }

        private static boolean isDigit(int c) {
            return c >= '0' && c <= '9';
        }

        private static boolean isSign(int c) {
            switch (c) {
                case ';':
                case '=':
                case '+':
                case '-':
                case '*':
                case '/':
                case '<':
                case '(':
                case ')':
                    return true;
                default:
                    return false;
            }
        }
    }

    /** Reads a tape into a text. It stops at the first of SYNTAX and ROOM; the others wait for its end. */
    private static final class Reader {
        int place;
        private final Tokens tokens = new Tokens();
        private int next;
        private int fault;
        private int laterFault;
        private int laterPlace;
        private int number;
        private long name;

        int fill(Text into, Tape tape) {
            into.clear();
            next = 0;
            fault = 0;
            laterFault = 0;
            tokens.split(tape);
            boolean good = true;
            for (int n = 0; n <= TOKENS && good && kindNow() != END; n++) {
                int law = kindNow() - FIRST_LAW;
                good = law >= 0 && law < LAWS ? lawTold(into, law) : plainTold(into);
            }
            if (fault == 0 && laterFault != 0) {
                fault = laterFault;
                place = laterPlace;
            }
            return fault;
        }

        private boolean plainTold(Text into) {
            switch (kindNow()) {
                case LETTER:
                    return letterTold(into);
                case WORD:
                    return wordTold(into);
                case PICKER:
                    return pickerTold(into);
                case WIND:
                    return windTold(into);
                case RAIN:
                    return rainTold(into);
                case SEED:
                    return seedTold(into);
                default:
                    return stop(SYNTAX);
            }
        }

        private boolean letterTold(Text into) {
            if (into.letters >= LETTERS) {
                return stop(ROOM);
            }
            if (!take(LETTER) || !takeName(into.letter, into.letters) || !takeInt(0, WIDTH - 1)) {
                return false;
            }
            int x = number;
            if (!takeInt(0, HEIGHT - 1) || !take(';')) {
                return false;
            }
            into.addLetter(name, x, number);
            return true;
        }

        private boolean wordTold(Text into) {
            if (into.words >= WORDS) {
                return stop(ROOM);
            }
            if (!take(WORD) || !takeName(into.word, into.words) || !take(';')) {
                return false;
            }
            into.addWord(name);
            return true;
        }

        private boolean pickerTold(Text into) {
            if (into.pickers >= PICKERS) {
                return stop(ROOM);
            }
            if (!take(PICKER) || !takeName(into.picker, into.pickers) || !takeInt(0, WIDTH - 1)) {
                return false;
            }
            int x = number;
            if (!takeInt(0, HEIGHT - 1)) {
                return false;
            }
            int y = number;
            if (!takeInt(1, MOST_HAT) || !take(';')) {
                return false;
            }
            into.addPicker(name, WIDTH * y + x, number);
            return true;
        }

        private boolean windTold(Text into) {
            if (!take(WIND) || !takeStep()) {
                return false;
            }
            int x = number;
            if (!takeStep() || !take(';')) {
                return false;
            }
            into.windX = x;
            into.windY = number;
            return true;
        }

        private boolean rainTold(Text into) {
            if (!take(RAIN) || !takeInt(0, MOST_RAIN) || !take(';')) {
                return false;
            }
            into.rain = number;
            return true;
        }

        private boolean seedTold(Text into) {
            if (!take(SEED) || !takeInt(0, MOST_SEED) || !take(';')) {
                return false;
            }
            into.seed = number;
            return true;
        }

        private boolean lawTold(Text into, int law) {
            if (!take(FIRST_LAW + law) || !take('=')) {
                return false;
            }
            int start = into.coded;
            boolean good = true;
            for (int ifs = 0; ifs <= IFS && good && kindNow() == IF; ifs++) {
                good = ifs == IFS ? stop(ROOM) : ifTold(into);
            }
            if (!good || !sum(into, 0) || !take(';')) {
                return false;
            }
            into.addCode(ANSWER);
            into.lawStart[law] = start;
            return true;
        }

        private boolean ifTold(Text into) {
            if (!take(IF) || !sum(into, 0) || !take('<') || !sum(into, 0) || !take(THEN)) {
                return false;
            }
            into.addCode(UNLESS_LESS);
            int hole = into.coded;
            into.addCode(0);
            if (!sum(into, 0) || !take(ELSE)) {
                return false;
            }
            into.addCode(ANSWER);
            into.setCode(hole, into.coded);
            return true;
        }

        private boolean sum(Text into, int within) {
            boolean good = product(into, within);
            for (int n = 0; n <= TOKENS && good && (kindNow() == '+' || kindNow() == '-'); n++) {
                int kind = kindNow();
                good = take(kind) && product(into, within);
                into.addCode(kind == '+' ? ADD : SUBTRACT);
            }
            return good;
        }

        private boolean product(Text into, int within) {
            boolean good = unit(into, within);
            for (int n = 0; n <= TOKENS && good && (kindNow() == '*' || kindNow() == '/'); n++) {
                int kind = kindNow();
                good = take(kind) && unit(into, within);
                into.addCode(kind == '*' ? MULTIPLY : DIVIDE);
            }
            return good;
        }

        private boolean unit(Text into, int within) {
            int kind = kindNow();
            if (kind == '(') {
                return within >= WITHIN ? stop(ROOM) : take('(') && sum(into, within + 1) && take(')');
            }
            if (kind >= FIRST_VAR && kind < FIRST_VAR + VARS) {
                into.addCode(VAR - (kind - FIRST_VAR));
                return take(kind);
            }
            into.addCode((int) valueNow());
            return take(INT);
        }

        private boolean takeName(long[] names, int count) {
            name = valueNow();
            for (int i = 0; i < count && i < names.length; i++) {
                if (names[i] == name) {
                    noteLater(TWICE);
                }
            }
            return take(NAME);
        }

        private boolean takeStep() {
            boolean back = kindNow() == '-';
            if (back && !take('-') || !takeInt(0, MOST_WIND)) {
                return false;
            }
            number = back ? -number : number;
            return true;
        }

        private boolean takeInt(int least, int most) {
            number = (int) valueNow();
            if (number < least || number > most) {
                noteLater(WRONG);
            }
            return take(INT);
        }

        private boolean take(int kind) {
            if (kindNow() != kind) {
                return stop(SYNTAX);
            }
            if (next >= TOKENS) {
                return stop(ROOM);
            }
            next++;
            return true;
        }

        private int kindNow() {
            return next < 0 || next > TOKENS ? BAD : tokens.kind[next];
        }

        private long valueNow() {
            return next < 0 || next > TOKENS ? 0 : tokens.value[next];
        }

        private boolean stop(int which) {
            if (next >= 0 && next <= TOKENS) {
                fault = which;
                place = tokens.place[next];
            }
            return false;
        }

        private void noteLater(int which) {
            if (laterFault == 0 && next >= 0 && next <= TOKENS) {
                laterFault = which;
                laterPlace = tokens.place[next];
            }
        }
    }

    /** What a text tells. All LAWS share one row of code, in which each begins at its start. */
    private static final class Text {
        int letters;
        int words;
        int pickers;
        int pieces;
        final long[] letter = new long[LETTERS];
        final long[] word = new long[WORDS];
        final long[] picker = new long[PICKERS];
        final int[] sign = new int[PIECES];
        final int[] letterOf = new int[PIECES];
        final int[] firstCell = new int[PIECES];
        final int[] pickerCell = new int[PICKERS];
        final int[] hat = new int[PICKERS];
        final int[] code = new int[CODE];
        final int[] lawStart = new int[LAWS];
        int coded;
        int windX;
        int windY;
        int rain;
        int seed;

        Text() {
            clear();
        }

        void clear() {
            letters = 0;
            words = 0;
            pickers = 0;
            pieces = 0;
            windX = 1;
            windY = 0;
            rain = 0;
            seed = 0;
            coded = 0;
            lawStart[BLOWS] = coded;
            addCode(0);
            addCode(ANSWER);
            lawStart[TAKES] = coded;
            lawStart[PAYS] = coded;
            addCode(1);
            addCode(ANSWER);
        }

        void addLetter(long name, int x, int y) {
            if (letters < 0 || letters >= LETTERS) {
                return;
            }
            int length = nameLength(name);
            for (int i = 0; i < length && pieces >= 0 && pieces < PIECES; i++) {
                sign[pieces] = signAt(name, i);
                letterOf[pieces] = letters;
                firstCell[pieces] = WIDTH * y + (x + i) % WIDTH;
                pieces++;
            }
            letter[letters] = name;
            letters++;
        }

        void addWord(long name) {
            if (words >= 0 && words < WORDS) {
                word[words] = name;
                words++;
            }
        }

        void addPicker(long name, int cell, int holds) {
            if (pickers >= 0 && pickers < PICKERS) {
                picker[pickers] = name;
                pickerCell[pickers] = cell;
                hat[pickers] = holds;
                pickers++;
            }
        }

        void addCode(int entry) {
            if (coded >= 0 && coded < CODE) {
                code[coded] = entry;
                coded++;
            }
        }

        void setCode(int at, int entry) {
            if (at >= 0 && at < CODE) {
                code[at] = entry;
            }
        }
    }

    /** All that goes on. Where a PIECE is: its cell (10 * Y + X); from CELLS on, the HAT that it is in. */
    private static final class Yard {
        int hour;
        int pieces;
        int pickers;
        final int[] where = new int[PIECES];
        final int[] lain = new int[PIECES];
        final int[] at = new int[PICKERS];
        final int[] goal = new int[PICKERS];
        final int[] has = new int[PICKERS];

        void begin(Text text) {
            hour = 0;
            pieces = Math.min(PIECES, text.pieces);
            pickers = Math.min(PICKERS, text.pickers);
            System.arraycopy(text.firstCell, 0, where, 0, PIECES);
            System.arraycopy(text.pickerCell, 0, at, 0, PICKERS);
            Arrays.fill(lain, 0);
            Arrays.fill(goal, NOTHING);
            Arrays.fill(has, 0);
        }

        void copy(Yard other) {
            hour = other.hour;
            pieces = other.pieces;
            pickers = other.pickers;
            System.arraycopy(other.where, 0, where, 0, PIECES);
            System.arraycopy(other.lain, 0, lain, 0, PIECES);
            System.arraycopy(other.at, 0, at, 0, PICKERS);
            System.arraycopy(other.goal, 0, goal, 0, PICKERS);
            System.arraycopy(other.has, 0, has, 0, PICKERS);
        }

        boolean isLying(int piece) {
            return where[piece] < CELLS;
        }

        int holder(int piece) {
            return where[piece] < CELLS ? NOTHING : where[piece] - CELLS;
        }

        int cellOf(int piece) {
            int holder = holder(piece);
            return holder >= 0 && holder < PICKERS ? at[holder] : where[piece];
        }

        void putInHat(int piece, int picker) {
            where[piece] = CELLS + picker;
            lain[piece] = 0;
            has[picker]++;
        }

        void layDown(int piece) {
            int holder = holder(piece);
            if (holder >= 0 && holder < PICKERS) {
                has[holder]--;
                where[piece] = at[holder];
                lain[piece] = 0;
            }
        }

        int countLying() {
            int lying = pieces;
            for (int i = 0; i < pickers; i++) {
                lying -= has[i];
            }
            return lying;
        }

        int countAt(int cell) {
            int there = 0;
            for (int i = 0; i < pieces; i++) {
                if (where[i] == cell) {
                    there++;
                }
            }
            return there;
        }

        void countAll(int[] perCell) {
            Arrays.fill(perCell, 0);
            for (int i = 0; i < pieces; i++) {
                int cell = where[i];
                if (cell >= 0 && cell < CELLS && cell < perCell.length) {
                    perCell[cell]++;
                }
            }
        }

        int countCells(int[] perCell) {
            countAll(perCell);
            int cells = 0;
            for (int there : perCell) {
                if (there > 0) {
                    cells++;
                }
            }
            return cells;
        }
    }

    /** What was, for undo: a ring in which the newest takes the place of the oldest. */
    private static final class Past {
        int size;
        private final Yard[] yards = new Yard[PAST];
        private int newest;

        void keep(Yard yard) {
            newest = newest + 1 >= PAST ? 0 : newest + 1;
            if (yards[newest] == null) {
                yards[newest] = new Yard();
            }
            yards[newest].copy(yard);
            size = Math.min(PAST, size + 1);
        }

        boolean bringBack(Yard yard) {
            if (size <= 0 || yards[newest] == null) {
                return false;
            }
            yard.copy(yards[newest]);
            newest = newest == 0 ? PAST - 1 : newest - 1;
            size--;
            return true;
        }
    }

    /** LAWS as they are looked at: the VARS are set, then the entries are gone through. */
    private static final class Laws {
        private final int[] vars = new int[VARS];
        private final int[] stack = new int[STACK];

        int ofPiece(int law, Text text, Yard yard, int piece, int here) {
            int cell = yard.where[piece];
            vars[VAR_SIGN] = text.sign[piece];
            vars[VAR_ACROSS] = cell % WIDTH;
            vars[VAR_DOWN] = cell / WIDTH;
            vars[VAR_HOUR] = yard.hour;
            vars[VAR_LAIN] = yard.lain[piece];
            vars[VAR_HAT] = 0;
            vars[VAR_HAS] = 0;
            vars[VAR_HERE] = here;
            vars[VAR_WHICH] = piece;
            return value(text, law);
        }

        int pays(Text text, Yard yard, int picker, int piece) {
            Arrays.fill(vars, 0);
            vars[VAR_SIGN] = text.sign[piece];
            vars[VAR_HOUR] = yard.hour;
            vars[VAR_HAT] = text.hat[picker];
            vars[VAR_HAS] = yard.has[picker];
            vars[VAR_WHICH] = picker;
            return value(text, PAYS);
        }

        private int value(Text text, int law) {
            int[] code = text.code;
            int at = text.lawStart[law];
            int top = 0;
            for (int n = 0; n < CODE && at >= 0 && at < CODE && top < STACK; n++) {
                int entry = code[at];
                at++;
                if (entry >= 0) {
                    stack[top] = entry;
                    top++;
                } else if (entry <= VAR) {
                    stack[top] = varOf(entry);
                    top++;
                } else if (entry == ANSWER) {
                    return top > 0 ? stack[top - 1] : 0;
                } else if (top < 2 || at >= CODE || entry == DIVIDE && stack[top - 1] == 0) {
                    return 0;
                } else if (entry == UNLESS_LESS) {
                    top -= 2;
                    at = stack[top] < stack[top + 1] ? at + 1 : code[at];
                } else {
                    top--;
                    stack[top - 1] = joined(entry, stack[top - 1], stack[top]);
                }
            }
            return 0;
        }

        private int varOf(int entry) {
            int which = VAR - entry;
            return which >= 0 && which < VARS ? vars[which] : 0;
        }

        private static int joined(int entry, int left, int right) {
            switch (entry) {
                case ADD:
                    return left + right;
                case SUBTRACT:
                    return left - right;
                case MULTIPLY:
                    return left * right;
                default:
                    return right == 0 ? 0 : left / right;
            }
        }
    }

    /** HOURS that go by, on the yard itself or on one that only would be. */
    private static final class Weather {
        private final Laws laws = new Laws();
        private final int[] lying = new int[CELLS];

        int lawOfPiece(int law, Text text, Yard yard, int piece) {
            return laws.ofPiece(law, text, yard, piece, yard.countAt(yard.where[piece]));
        }

        int takesOfAll(Text text, Yard yard) {
            yard.countAll(lying);
            int sum = 0;
            for (int i = 0; i < yard.pieces; i++) {
                int cell = yard.where[i];
                if (cell < CELLS) {
                    sum += money(laws.ofPiece(TAKES, text, yard, i, lying[cell]));
                }
            }
            return sum;
        }

        int owed(Text text, Yard yard, int picker) {
            int sum = 0;
            for (int i = 0; i < yard.pieces; i++) {
                if (yard.holder(i) == picker) {
                    sum += money(laws.pays(text, yard, picker, i));
                }
            }
            return sum;
        }

        /** Without RAIN if the seed is NONE. */
        void goOn(Text text, Yard yard, int n, int seed) {
            for (int i = 0; i < n; i++) {
                walk(yard);
                pickUp(text, yard);
                if (seed != NONE && rains(text, seed, yard.hour)) {
                    lieOn(yard);
                } else {
                    blow(text, yard);
                }
                yard.hour++;
            }
        }

        private static void walk(Yard yard) {
            for (int i = 0; i < yard.pickers; i++) {
                int goal = yard.goal[i];
                int at = yard.at[i];
                if (goal == NOTHING) {
                    continue;
                }
                int right = Integer.compare(goal % WIDTH, at % WIDTH);
                int down = Integer.compare(goal / WIDTH, at / WIDTH);
                yard.at[i] = right != 0 ? at + right : at + WIDTH * down;
                if (yard.at[i] == goal) {
                    yard.goal[i] = NOTHING;
                }
            }
        }

        private static void pickUp(Text text, Yard yard) {
            for (int i = 0; i < yard.pickers; i++) {
                int cell = yard.at[i];
                for (int k = 0; k < yard.pieces && yard.has[i] < text.hat[i]; k++) {
                    if (yard.where[k] == cell) {
                        yard.putInHat(k, i);
                    }
                }
            }
        }

        private static void lieOn(Yard yard) {
            for (int i = 0; i < yard.pieces; i++) {
                if (yard.isLying(i)) {
                    yard.lain[i] = Math.min(MOST_LAIN, yard.lain[i] + 1);
                }
            }
        }

        /** PIECES move while others are still looked at, so what lies where is counted before. */
        private void blow(Text text, Yard yard) {
            yard.countAll(lying);
            for (int i = 0; i < yard.pieces; i++) {
                int cell = yard.where[i];
                if (cell >= CELLS) {
                    continue;
                }
                if (laws.ofPiece(BLOWS, text, yard, i, lying[cell]) > 0) {
                    int x = held(cell % WIDTH + text.windX, WIDTH - 1);
                    int y = held(cell / WIDTH + text.windY, HEIGHT - 1);
                    yard.where[i] = WIDTH * y + x;
                    yard.lain[i] = 0;
                } else {
                    yard.lain[i] = Math.min(MOST_LAIN, yard.lain[i] + 1);
                }
            }
        }
    }

    /** The fewest STEPS to come to sets of cells (bits), by sets first that are one cell smaller. */
    private static final class Tours {
        private int cells;
        private final int[] cell = new int[TOUR_CELLS];
        private final int[] lying = new int[CELLS];
        private int[] from = new int[0];

        /** False: there are more cells than a tour may have. */
        boolean gather(Yard yard, int without) {
            yard.countAll(lying);
            cells = 0;
            for (int i = 0; i < CELLS; i++) {
                if (lying[i] > 0 && i != without) {
                    if (cells >= TOUR_CELLS) {
                        return false;
                    }
                    cell[cells] = i;
                    cells++;
                }
            }
            fillFrom();
            return true;
        }

        int all() {
            return (1 << cells) - 1;
        }

        private static int index(int set, int first) {
            return set * TOUR_CELLS + first;
        }

        private void fillFrom() {
            if (from.length < index(all() + 1, 0)) {
                from = new int[index(1 << TOUR_CELLS, 0)];
            }
            for (int set = 1; set <= all(); set++) {
                for (int first = 0; first < cells; first++) {
                    if ((set >> first & 1) == 1) {
                        from[index(set, first)] = fewest(cell[first], set & ~(1 << first));
                    }
                }
            }
        }

        int fewest(int start, int set) {
            int least = set == 0 ? 0 : BEYOND;
            for (int next = 0; next < cells; next++) {
                if ((set >> next & 1) == 1) {
                    least = Math.min(least, apart(start, cell[next]) + from[index(set, next)]);
                }
            }
            return least;
        }

        int firstCell(int start) {
            int least = fewest(start, all());
            for (int next = 0; next < cells; next++) {
                if (apart(start, cell[next]) + from[index(all(), next)] == least) {
                    return cell[next];
                }
            }
            return NOTHING;
        }

        int shared(int start, int otherStart) {
            int least = BEYOND;
            for (int set = 0; set <= all(); set++) {
                int greater = Math.max(fewest(start, set), fewest(otherStart, all() & ~set));
                least = Math.min(least, greater);
            }
            return least;
        }
    }

    /** A heap of PIECES as how often each sign is there. */
    private static final class Heap {
        private final int[] there = new int[32];

        void gather(Text text, Yard yard, int heap) {
            Arrays.fill(there, 0);
            for (int i = 0; i < yard.pieces; i++) {
                boolean lies = yard.isLying(i);
                if (heap == HEAPS - 1 || (heap == LYING_HEAP ? lies : yard.holder(i) == heap)) {
                    there[text.sign[i] & 31]++;
                }
            }
        }

        int lacks(long word) {
            int lacking = takeOut(word);
            putBack(word);
            return lacking;
        }

        int makes(Text text) {
            int bits = 0;
            for (int i = 0; i < text.words; i++) {
                if (lacks(text.word[i]) == 0) {
                    bits |= 1 << i;
                }
            }
            return bits;
        }

        int mostAtOnce(Text text) {
            int best = 0;
            for (int set = 1; set < 1 << text.words; set++) {
                if (Integer.bitCount(set) > Integer.bitCount(best) && makesAtOnce(text, set)) {
                    best = set;
                }
            }
            return best;
        }

        private boolean makesAtOnce(Text text, int set) {
            int lacking = 0;
            for (int i = 0; i < text.words; i++) {
                if ((set >> i & 1) == 1) {
                    lacking += takeOut(text.word[i]);
                }
            }
            for (int i = 0; i < text.words; i++) {
                if ((set >> i & 1) == 1) {
                    putBack(text.word[i]);
                }
            }
            return lacking == 0;
        }

        private int takeOut(long word) {
            int lacking = 0;
            int length = nameLength(word);
            for (int i = 0; i < length; i++) {
                int sign = signAt(word, i);
                there[sign]--;
                if (there[sign] < 0) {
                    lacking++;
                }
            }
            return lacking;
        }

        private void putBack(long word) {
            int length = nameLength(word);
            for (int i = 0; i < length; i++) {
                there[signAt(word, i)]++;
            }
        }
    }

    /** What was TOLD: a SIGN, below 0 if what was written has it not. */
    private static final class Told {
        int size;
        private final int[] signs = new int[TOLD];

        int add(int sign, boolean has) {
            if (size < 0 || size >= TOLD) {
                return NONE;
            }
            signs[size] = has ? sign : -sign;
            size++;
            return size - 1;
        }

        int left(Text text, int known) {
            int bits = 0;
            for (int i = 0; i < text.words; i++) {
                if (agrees(text.word[i], known)) {
                    bits |= 1 << i;
                }
            }
            return bits;
        }

        private boolean agrees(long word, int known) {
            for (int i = 0; i < known && i < TOLD; i++) {
                if (hasSign(word, Math.abs(signs[i])) != signs[i] > 0) {
                    return false;
                }
            }
            return true;
        }

        int bestQuestion(Text text, int left) {
            int best = NOTHING;
            int fewest = left == 0 ? 0 : WORDS + 1;
            for (int sign = 1; sign <= SIGNS; sign++) {
                int with = 0;
                for (int i = 0; i < text.words; i++) {
                    if ((left >> i & 1) == 1 && hasSign(text.word[i], sign)) {
                        with++;
                    }
                }
                int worst = Math.max(with, Integer.bitCount(left) - with);
                if (worst < fewest) {
                    fewest = worst;
                    best = sign;
                }
            }
            return best;
        }

        private static boolean hasSign(long word, int sign) {
            for (int i = 0; i < NAME_SIGNS; i++) {
                if (signAt(word, i) == sign) {
                    return true;
                }
            }
            return false;
        }
    }
}
