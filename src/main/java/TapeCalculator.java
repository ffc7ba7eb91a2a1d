/** A calculator after the IBM 701. The words in capitals are those of its document. */
public final class TapeCalculator {
    public static final int BAD = -1, FULL = -2, STATE = -4, NONE = -9;

    private static final int HALVES = 512;
    private static final int LAST_HALF = HALVES - 1;
    private static final int HALF_BITS = 18;
    private static final int HALF_MASK = (1 << HALF_BITS) - 1;
    private static final int HALF_SIGN_AT = 17;
    private static final int HALF_SIZE_MASK = (1 << HALF_SIGN_AT) - 1;
    private static final int WORD_SIGN_AT = 35;
    private static final long WORD_MASK = (1L << 36) - 1;
    private static final long SIZE_MASK = (1L << WORD_SIGN_AT) - 1;
    private static final long ACC_MASK = (1L << 37) - 1;

    private static final int ADDRESS_BITS = 12;
    private static final int ADDRESS_MASK = (1 << ADDRESS_BITS) - 1;
    private static final int ACT_MASK = 31;
    private static final int SHIFT_MASK = 63;
    private static final int MOST_ACTS = 20000;

    private static final int HALT = 0, GO = 1, IF_OVER = 2, IF_PLUS = 3, IF_ZERO = 4, TAKE = 5, LOAD_LESS = 6,
        TAKE_SIZE = 7, NOTHING = 8, ADD = 9, LOAD = 10, ADD_SIZE = 11, STORE = 12, STORE_PART = 13, STORE_MQ = 14,
        LOAD_MQ = 15, TIMES = 16, TIMES_ROUND = 17, SHARE = 18, ROUND = 19, LEFT_BOTH = 20, RIGHT_BOTH = 21,
        LEFT = 22, RIGHT = 23, READ = 24, READ_BACK = 25, WRITE = 26, WRITE_END = 27, REWIND = 28, SET_DRUM = 29,
        SENSE = 30, COPY = 31;

    private static final int GOES_ON = 0, STOP_HALT = 1, STOP_ADDRESS = 2, STOP_SHARE = 3, STOP_UNIT = 4,
        STOP_TAPE_FULL = 5, STOP_NOT_CHOSEN = 6;

    private static final int TAPES = 4;
    private static final int MOST_ITEMS = 300;
    private static final int END_OF_RECORD = -2, END_OF_FILE = -3;
    private static final int DRUM_WORDS = 256;
    private static final int DRUM_ADDRESS = 128, FIRST_TAPE_ADDRESS = 256;

    /** CHOSEN is held as told(9) tells it; these are the codes of tape 0 and of THE DRUM. */
    private static final int CHOSEN_NONE = 0, CHOSEN_READ = 1, CHOSEN_BACK = 5, CHOSEN_WRITE = 9,
        CHOSEN_DRUM_READ = 13, CHOSEN_DRUM_WRITE = 14;

    private static final int LIGHTS = 4, SWITCHES = 4;
    private static final int LIGHTS_OFF = 64, LIGHT_ON = 64, ASK_SWITCH = 68, ASK_LIGHT = 72;

    private static final int TEXT_BYTES = 2000;
    private static final int MOST_LINES = 200;
    private static final int MOST_FED = 8;
    private static final int FIRST_FAULT = -10;
    private static final int MOST_LINE_BYTES = 11;
    private static final int REGISTERS = 10;

    private final Store store;
    private final Arithmetic arithmetic;
    private final Units units;
    private final Text text;
    private final LineWriter writer;
    private int place;
    private int nextPlace;
    private int lights;
    private int switches;
    private int latestStop;
    private long actsDone;

    public TapeCalculator() {
        store = new Store();
        arithmetic = new Arithmetic();
        units = new Units();
        text = new Text();
        writer = new LineWriter();
    }

    // ---- the store, by hand

    public int half(int n) {
        return isHalf(n) ? store.halfAt(n) : BAD;
    }

    public int put(int n, int bits) {
        if (!isHalf(n) || bits < 0 || bits > HALF_MASK) {
            return BAD;
        }
        int before = store.halfAt(n);
        store.keepHalf(n, bits);
        return before;
    }

    public long whole(int n) {
        return isHalf(n) && (n & 1) == 0 ? store.wholeAt(n) : BAD;
    }

    public long told(int what) {
        switch (what) {
            case 0: return arithmetic.accSign;
            case 1: return arithmetic.accSize;
            case 2: return arithmetic.mqSign;
            case 3: return arithmetic.mqSize;
            case 4: return arithmetic.over ? 1 : 0;
            case 5: return place;
            case 6: return lights;
            case 7: return units.drum.place;
            case 8: return latestStop;
            case 9: return units.chosen;
            default: return BAD;
        }
    }

    public int set(int what, long v) {
        if (v < 0 || v > mostOfRegister(what)) {
            return BAD;
        }
        switch (what) {
            case 0: arithmetic.accSign = (int) v; break;
            case 1: arithmetic.accSize = v; break;
            case 2: arithmetic.mqSign = (int) v; break;
            case 3: arithmetic.mqSize = v; break;
            case 4: arithmetic.over = v == 1; break;
            default: place = (int) v; break;
        }
        return 1;
    }

    public int turn(int k, boolean on) {
        if (k < 1 || k > SWITCHES) {
            return BAD;
        }
        int bit = bitOf(k);
        int before = (switches & bit) != 0 ? 1 : 0;
        switches = on ? switches | bit : switches & ~bit;
        return before;
    }

    // ---- running

    public int run(int n) {
        if (n < 0 || n > MOST_ACTS) {
            return BAD;
        }
        latestStop = GOES_ON;
        int done = 0;
        while (done < n && latestStop == GOES_ON) {
            doNextAct();
            done++;
        }
        return done;
    }

    public int step() {
        doNextAct();
        return latestStop;
    }

    public long acts() {
        return actsDone;
    }

    // ---- units

    public long item(int tape, int i) {
        Tape asked = units.tapeAt(tape);
        return asked == null ? BAD : asked.itemAt(i);
    }

    public int lay(int tape, long v) {
        Tape asked = units.tapeAt(tape);
        if (asked == null || !isItem(v)) {
            return BAD;
        }
        return asked.addBehindAll(v) ? asked.count : FULL;
    }

    public int stands(int tape) {
        Tape asked = units.tapeAt(tape);
        return asked == null ? BAD : asked.at;
    }

    public int blank(int tape) {
        return units.clearTape(tape);
    }

    public long drum(int i) {
        return i < 0 || i >= DRUM_WORDS ? BAD : units.drum.wordAt(i);
    }

    // ---- the text

    public int feed(long bytes, int n) {
        if (n < 1 || n > MOST_FED) {
            return BAD;
        }
        return text.takeBytes(bytes, n) ? text.length : FULL;
    }

    public int load() {
        // A text with a fault puts nothing, so that all of it is looked at before its first LINE is put.
        int lines = text.readLines(store, false);
        if (text.isFaulty()) {
            lines = FIRST_FAULT - text.fault;
        } else {
            text.readLines(store, true);
        }
        text.length = 0;
        return lines;
    }

    public int written(int n, int i) {
        if (!isHalf(n) || i < 0) {
            return BAD;
        }
        writer.writeAct(n, store.halfAt(n));
        return writer.byteAt(i);
    }

    public long digest() {
        long h = 17;
        for (int n = 0; n < HALVES; n++) {
            h = 31 * h + store.halfAt(n);
        }
        for (int what = 0; what < REGISTERS; what++) {
            h = 31 * h + told(what);
        }
        for (int t = 0; t < TAPES; t++) {
            Tape tape = units.tapeAt(t);
            if (tape != null) {
                h = tape.digestOnto(h);
            }
        }
        for (int i = 0; i < DRUM_WORDS; i++) {
            h = 31 * h + units.drum.wordAt(i);
        }
        return h;
    }

    // ---- how an ACT is done

    private void doNextAct() {
        int bits = store.halfAt(place);
        int act = (bits >> ADDRESS_BITS) & ACT_MASK;
        int address = bits & ADDRESS_MASK;
        nextPlace = place;
        passOver(1);
        latestStop = wantsHalfOfStore(act) && address > LAST_HALF
            ? STOP_ADDRESS
            : perform(act, bits >> HALF_SIGN_AT != 0, address);
        if (latestStop != GOES_ON) {
            units.endByStop();
        }
        if (latestStop == GOES_ON || latestStop == STOP_HALT) {
            place = nextPlace;
        }
        actsDone++;
    }

    /** With minus the lowest bit of ADDRESS is left out, which never brings one above 511 below it. */
    private static boolean wantsHalfOfStore(int act) {
        return act <= SHARE && act != NOTHING || act == COPY;
    }

    private int perform(int act, boolean minus, int address) {
        switch (act) {
            case HALT: goTo(address); return STOP_HALT;
            case GO: case IF_OVER: case IF_PLUS: case IF_ZERO: return goIf(act, address);
            case NOTHING: return GOES_ON;
            case STORE: store.keepOperand(minus, address, arithmetic.accWord()); return GOES_ON;
            case STORE_PART: storePart(minus, address); return GOES_ON;
            case STORE_MQ: store.keepOperand(minus, address, arithmetic.mqWord()); return GOES_ON;
            case ROUND: arithmetic.round(); return GOES_ON;
            case LEFT_BOTH: arithmetic.leftBoth(address & SHIFT_MASK); return GOES_ON;
            case RIGHT_BOTH: arithmetic.rightBoth(address & SHIFT_MASK); return GOES_ON;
            case LEFT: arithmetic.left(address & SHIFT_MASK); return GOES_ON;
            case RIGHT: arithmetic.right(address & SHIFT_MASK); return GOES_ON;
            case READ: case READ_BACK: case WRITE: case WRITE_END: case REWIND: return units.choose(act, address);
            case SET_DRUM: return units.setDrumPlace(address) ? GOES_ON : STOP_UNIT;
            case SENSE: return sense(address);
            case COPY: return copy(minus, address);
            default: return arithmetic.calculate(act, store.operand(minus, address));
        }
    }

    private int goIf(int act, int address) {
        boolean goes = act == GO
            || act == IF_OVER && arithmetic.over
            || act == IF_PLUS && arithmetic.accSign == 0
            || act == IF_ZERO && arithmetic.accSize == 0;
        if (act == IF_OVER) {
            arithmetic.over = false;
        }
        if (goes) {
            goTo(address);
        }
        return GOES_ON;
    }

    private void goTo(int address) {
        nextPlace = address & LAST_HALF;
    }

    private void passOver(int more) {
        nextPlace = (nextPlace + more) & LAST_HALF;
    }

    private void storePart(boolean minus, int address) {
        long acc = arithmetic.accWord();
        if (minus) {
            store.keepOperand(true, address, store.operand(true, address) & acc);
        } else {
            int kept = store.halfAt(address) & ~ADDRESS_MASK;
            store.keepHalf(address, kept | ((int) (acc >> HALF_BITS) & ADDRESS_MASK));
        }
    }

    private int sense(int address) {
        if (address < LIGHTS_OFF || address > ASK_LIGHT + LIGHTS) {
            return STOP_UNIT;
        }
        if (address == LIGHTS_OFF) {
            lights = 0;
        } else if (address <= LIGHT_ON + LIGHTS) {
            lights |= bitOf(address - LIGHT_ON);
        } else if (address <= ASK_SWITCH + SWITCHES) {
            passOver((switches & bitOf(address - ASK_SWITCH)) != 0 ? 1 : 0);
        } else {
            passOver((lights & bitOf(address - ASK_LIGHT)) != 0 ? 1 : 0);
            lights &= ~bitOf(address - ASK_LIGHT);
        }
        return GOES_ON;
    }

    private int copy(boolean minus, int address) {
        if (units.chosen == CHOSEN_NONE) {
            return STOP_NOT_CHOSEN;
        }
        if (units.isWriting()) {
            return units.writeWord(store.operand(minus, address)) ? GOES_ON : STOP_TAPE_FULL;
        }
        long met = units.readItem();
        if (met >= 0) {
            store.keepOperand(minus, address, met);
        } else {
            passOver(met == END_OF_RECORD ? 2 : 1);
        }
        return GOES_ON;
    }

    // ---- what several parts ask

    private static boolean isHalf(int n) {
        return n >= 0 && n < HALVES;
    }

    private static boolean isItem(long v) {
        return v >= 0 && v <= WORD_MASK || v == END_OF_RECORD || v == END_OF_FILE;
    }

    /** -1 where no register can be set, so that no v is low enough. */
    private static long mostOfRegister(int what) {
        switch (what) {
            case 0: case 2: case 4: return 1;
            case 1: return ACC_MASK;
            case 3: return SIZE_MASK;
            case 5: return LAST_HALF;
            default: return -1;
        }
    }

    private static int bitOf(int k) {
        return 1 << (k - 1);
    }

    private static long wordOf(int sign, long size) {
        return ((long) sign << WORD_SIGN_AT) | (size & SIZE_MASK);
    }

    /** THE STORE. */
    private static final class Store {
        private final int[] halves;

        Store() {
            halves = new int[HALVES];
        }

        int halfAt(int n) {
            return isHalf(n) ? halves[n] : 0;
        }

        void keepHalf(int n, int bits) {
            if (isHalf(n)) {
                halves[n] = bits & HALF_MASK;
            }
        }

        long wholeAt(int n) {
            return ((long) halfAt(n) << HALF_BITS) | halfAt(n + 1);
        }

        void keepWhole(int n, long word) {
            keepHalf(n, (int) (word >> HALF_BITS));
            keepHalf(n + 1, (int) (word & HALF_MASK));
        }

        long operand(boolean minus, int address) {
            return minus ? wholeAt(address & ~1) : (long) halfAt(address) << HALF_BITS;
        }

        void keepOperand(boolean minus, int address, long word) {
            if (minus) {
                keepWhole(address & ~1, word);
            } else {
                keepHalf(address, (int) (word >> HALF_BITS));
            }
        }
    }

    /** THE ACC, THE MQ and OVER. */
    private static final class Arithmetic {
        int accSign;
        long accSize;
        int mqSign;
        long mqSize;
        boolean over;

        /** THE ACC without Q and P. */
        long accWord() {
            return wordOf(accSign, accSize);
        }

        long mqWord() {
            return wordOf(mqSign, mqSize);
        }

        /** An ACT that takes an OPERAND from THE STORE: its STOP. */
        int calculate(int act, long word) {
            int sign = (int) (word >> WORD_SIGN_AT) & 1;
            long size = word & SIZE_MASK;
            switch (act) {
                case ADD: addSigned(sign, size); break;
                case TAKE: addSigned(1 - sign, size); break;
                case ADD_SIZE: addSigned(0, size); break;
                case TAKE_SIZE: addSigned(1, size); break;
                case LOAD: loadAcc(sign, size); break;
                case LOAD_LESS: loadAcc(1 - sign, size); break;
                case LOAD_MQ: mqSign = sign; mqSize = size; break;
                case TIMES: times(sign, size); break;
                case TIMES_ROUND: times(sign, size); round(); break;
                case SHARE: return share(sign, size) ? GOES_ON : STOP_SHARE;
                default: break;
            }
            return GOES_ON;
        }

        private void loadAcc(int sign, long size) {
            accSign = sign;
            accSize = size;
        }

        private void addSigned(int sign, long size) {
            if (sign == accSign) {
                addSize(size);
            } else if (size > accSize) {
                accSize = size - accSize;
                accSign = sign;
            } else {
                accSize -= size;
            }
        }

        private void addSize(long size) {
            if ((accSize & SIZE_MASK) + size > SIZE_MASK) {
                over = true;
            }
            accSize = (accSize + size) & ACC_MASK;
        }

        void round() {
            if (mqSize >> (WORD_SIGN_AT - 1) != 0) {
                addSize(1);
            }
        }

        /** 70 bits are more than a long has: the OPERAND is taken in two parts, of 17 and of 18 bits. */
        private void times(int sign, long size) {
            long low = mqSize * (size & HALF_MASK);
            long high = mqSize * (size >> HALF_BITS) + (low >> HALF_BITS);
            accSize = high >> HALF_SIGN_AT;
            mqSize = ((high & HALF_SIZE_MASK) << HALF_BITS) | (low & HALF_MASK);
            accSign = mqSign ^ sign;
            mqSign = accSign;
        }

        /** The quotient comes in two parts, too, as the 70 bits do not fit a long. */
        private boolean share(int sign, long size) {
            if (size <= 0 || size <= accSize) {
                return false;
            }
            long first = (accSize << HALF_SIGN_AT) | (mqSize >> HALF_BITS);
            long second = ((first % size) << HALF_BITS) | (mqSize & HALF_MASK);
            mqSize = ((first / size) << HALF_BITS) | (second / size);
            accSize = second % size;
            mqSign = accSign ^ sign;
            return true;
        }

        void left(int n) {
            over = over || hasOneAhead(accSize, n);
            accSize = (accSize << n) & ACC_MASK;
        }

        void right(int n) {
            accSize >>= n;
        }

        void leftBoth(int n) {
            int pastMq = n - WORD_SIGN_AT;
            left(n);
            over = over || hasOneAhead(mqSize, pastMq);
            accSize |= (pastMq < 0 ? mqSize >> -pastMq : mqSize << pastMq) & ACC_MASK;
            mqSize = (mqSize << n) & SIZE_MASK;
            accSign = mqSign;
        }

        void rightBoth(int n) {
            int pastMq = n - WORD_SIGN_AT;
            long fromAcc = pastMq < 0 ? accSize << -pastMq : accSize >> pastMq;
            mqSize = ((mqSize >> n) | fromAcc) & SIZE_MASK;
            right(n);
            mqSign = accSign;
        }

        /** The bits that come into P one by one are the highest n of the 35 behind it. */
        private static boolean hasOneAhead(long size, int n) {
            if (n <= 0) {
                return false;
            }
            int behind = n < WORD_SIGN_AT ? WORD_SIGN_AT - n : 0;
            return (size & SIZE_MASK) >> behind != 0;
        }
    }

    /** A TAPE: its ITEMS and where it stands. */
    private static final class Tape {
        private final long[] items;
        int count;
        int at;

        Tape() {
            items = new long[MOST_ITEMS];
        }

        long itemAt(int i) {
            return i >= 0 && i < count && i < items.length ? items[i] : NONE;
        }

        boolean addBehindAll(long v) {
            if (count < 0 || count >= items.length) {
                return false;
            }
            items[count] = v;
            count++;
            return true;
        }

        /** ITEMS that lay() put behind while the tape is written are not told to be gone: they move on. */
        boolean putHere(long v) {
            if (at < 0 || at > count || count >= items.length) {
                return false;
            }
            for (int i = count; i > at; i--) {
                items[i] = items[i - 1];
            }
            items[at] = v;
            count++;
            at++;
            return true;
        }

        void cutHere() {
            count = at;
        }

        void clear() {
            count = 0;
            at = 0;
        }

        /** The ITEM that is passed, or NONE where there is none to pass. */
        long passForward() {
            long met = itemAt(at);
            if (met != NONE) {
                at++;
            }
            return met;
        }

        long passBackward() {
            long met = itemAt(at - 1);
            if (met != NONE) {
                at--;
            }
            return met;
        }

        long digestOnto(long start) {
            long h = 31 * (31 * start + count) + at;
            for (int i = 0; i < count; i++) {
                h = 31 * h + itemAt(i);
            }
            return h;
        }
    }

    /** THE DRUM and the DRUM PLACE. */
    private static final class Drum {
        private final long[] words;
        int place;

        Drum() {
            words = new long[DRUM_WORDS];
        }

        long wordAt(int i) {
            return i >= 0 && i < words.length ? words[i] : 0;
        }

        long readHere() {
            long word = wordAt(place);
            moveTo(place + 1);
            return word;
        }

        void writeHere(long word) {
            if (place >= 0 && place < words.length) {
                words[place] = word;
            }
            moveTo(place + 1);
        }

        void moveTo(int address) {
            place = address & (DRUM_WORDS - 1);
        }
    }

    /** The TAPES, THE DRUM and which of them is CHOSEN. */
    private static final class Units {
        private final Tape[] tapes;
        final Drum drum;
        int chosen;
        private boolean wordWritten;

        Units() {
            tapes = new Tape[TAPES];
            for (int t = 0; t < tapes.length; t++) {
                tapes[t] = new Tape();
            }
            drum = new Drum();
        }

        Tape tapeAt(int t) {
            return t >= 0 && t < tapes.length ? tapes[t] : null;
        }

        /** How many ITEMS the tape had, or BAD. */
        int clearTape(int t) {
            Tape tape = tapeAt(t);
            if (tape == null) {
                return BAD;
            }
            int before = tape.count;
            tape.clear();
            if (chosen == CHOSEN_WRITE + t) {
                wordWritten = false;
            }
            return before;
        }

        boolean isWriting() {
            return chosen == CHOSEN_DRUM_WRITE || writtenTape() != null;
        }

        private Tape writtenTape() {
            return chosen < CHOSEN_DRUM_READ ? tapeAt(chosen - CHOSEN_WRITE) : null;
        }

        /** The ACTS 24 to 28: their STOP. */
        int choose(int act, int address) {
            boolean ofDrum = address == DRUM_ADDRESS && (act == READ || act == WRITE);
            Tape tape = tapeAt(address - FIRST_TAPE_ADDRESS);
            if (!ofDrum && tape == null) {
                return STOP_UNIT;
            }
            if (!endRecord()) {
                return STOP_TAPE_FULL;
            }
            if (tape == null) {
                chosen = act == READ ? CHOSEN_DRUM_READ : CHOSEN_DRUM_WRITE;
                return GOES_ON;
            }
            return chooseTape(act, tape, address - FIRST_TAPE_ADDRESS);
        }

        private int chooseTape(int act, Tape tape, int t) {
            chosen = CHOSEN_NONE;
            switch (act) {
                case READ: chosen = CHOSEN_READ + t; break;
                case READ_BACK: chosen = CHOSEN_BACK + t; break;
                case WRITE:
                    tape.cutHere();
                    chosen = CHOSEN_WRITE + t;
                    break;
                case WRITE_END:
                    tape.cutHere();
                    return tape.putHere(END_OF_FILE) ? GOES_ON : STOP_TAPE_FULL;
                default: tape.at = 0; break;
            }
            return GOES_ON;
        }

        /** False: the END OF RECORD that is due has no room. */
        private boolean endRecord() {
            Tape tape = writtenTape();
            boolean due = wordWritten;
            wordWritten = false;
            return tape == null || !due || tape.putHere(END_OF_RECORD);
        }

        void endByStop() {
            endRecord();
            chosen = CHOSEN_NONE;
        }

        boolean setDrumPlace(int address) {
            if (chosen != CHOSEN_DRUM_READ && chosen != CHOSEN_DRUM_WRITE) {
                return false;
            }
            drum.moveTo(address);
            return true;
        }

        /** False: the tape has no room. */
        boolean writeWord(long word) {
            Tape tape = writtenTape();
            if (tape == null) {
                drum.writeHere(word);
                return true;
            }
            boolean hadRoom = tape.putHere(word);
            wordWritten = wordWritten || hadRoom;
            return hadRoom;
        }

        /** A word; or what COPY met in its place (an END, or NONE), behind which nothing is CHOSEN. */
        long readItem() {
            if (chosen == CHOSEN_DRUM_READ) {
                return drum.readHere();
            }
            boolean backward = chosen >= CHOSEN_BACK;
            Tape tape = tapeAt(chosen - (backward ? CHOSEN_BACK : CHOSEN_READ));
            long met = NONE;
            if (tape != null) {
                met = backward ? tape.passBackward() : tape.passForward();
            }
            if (met < 0) {
                chosen = CHOSEN_NONE;
            }
            return met;
        }
    }

    /** The tape of THE TEXT, and how its LINES are read. */
    private static final class Text {
        private static final int NO_FAULT = -1;
        private static final int NO_BYTE = -1;

        private final byte[] bytes;
        int length;
        int fault;
        private int at;
        private int address;
        private boolean isWhole;
        private long value;

        Text() {
            bytes = new byte[TEXT_BYTES];
            fault = NO_FAULT;
        }

        /** False: they have no room. */
        boolean takeBytes(long word, int n) {
            if (length < 0 || length + n > bytes.length) {
                return false;
            }
            for (int i = 0; i < n && length < bytes.length; i++) {
                bytes[length] = (byte) (word >> (8 * i));
                length++;
            }
            return true;
        }

        boolean isFaulty() {
            return fault != NO_FAULT;
        }

        /** How many LINES there are ahead of the first fault or the end; with keep they are put into the store. */
        int readLines(Store store, boolean keep) {
            at = 0;
            fault = NO_FAULT;
            for (int lines = 0; lines < MOST_LINES; lines++) {
                if (at >= length) {
                    return lines;
                }
                readLine();
                if (isFaulty()) {
                    return lines;
                }
                if (keep) {
                    keepLine(store);
                }
            }
            if (at < length) {
                faultAt(at);
            }
            return MOST_LINES;
        }

        private void keepLine(Store store) {
            if (isWhole) {
                store.keepWhole(address, value);
            } else {
                store.keepHalf(address, (int) value);
            }
        }

        private void readLine() {
            int start = at;
            address = (int) readNumber(4, LAST_HALF);
            expect(' ');
            boolean isSize = skipIf('=');
            isWhole = isSize && skipIf('=');
            if (isWhole && (address & 1) != 0) {
                faultAt(start);
            }
            if (isWhole) {
                value = wordOf(readSign(), readNumber(11, SIZE_MASK));
            } else if (isSize) {
                value = (readSign() << HALF_SIGN_AT) | readNumber(6, HALF_SIZE_MASK);
            } else {
                long act = readNumber(2, ACT_MASK) << ADDRESS_BITS;
                value = (readSign() << HALF_SIGN_AT) | act | readNumber(4, ADDRESS_MASK);
            }
            expect('\n');
        }

        private long readNumber(int mostFigures, long most) {
            int start = at;
            long number = 0;
            for (int k = 0; k < mostFigures && isFigure(byteHere()); k++) {
                number = 10 * number + byteHere() - '0';
                at++;
            }
            if (at == start || number > most) {
                faultAt(start);
            }
            return number;
        }

        private int readSign() {
            boolean minus = skipIf('-');
            if (!minus) {
                expect('+');
            }
            return minus ? 1 : 0;
        }

        private void expect(char wanted) {
            if (!skipIf(wanted)) {
                faultAt(at);
            }
        }

        private boolean skipIf(char wanted) {
            boolean isThere = byteHere() == wanted;
            if (isThere) {
                at++;
            }
            return isThere;
        }

        /** The rest of a LINE behind its first fault is still gone through, but tells nothing any more. */
        private void faultAt(int where) {
            if (!isFaulty()) {
                fault = where;
            }
        }

        private int byteHere() {
            return at >= 0 && at < length && at < bytes.length ? bytes[at] & 255 : NO_BYTE;
        }

        private static boolean isFigure(int b) {
            return b >= '0' && b <= '9';
        }
    }

    /** Writes a HALF as the LINE of an ACT; its row is made once, as each byte is asked by a call of its own. */
    private static final class LineWriter {
        private final byte[] row;
        private int length;

        LineWriter() {
            row = new byte[MOST_LINE_BYTES];
        }

        void writeAct(int n, int bits) {
            length = 0;
            addNumber(n);
            addByte(' ');
            addNumber((bits >> ADDRESS_BITS) & ACT_MASK);
            addByte(bits >> HALF_SIGN_AT != 0 ? '-' : '+');
            addNumber(bits & ADDRESS_MASK);
        }

        int byteAt(int i) {
            return i >= 0 && i < length && i < row.length ? row[i] : NONE;
        }

        /** Of 4 figures at most, as an ADDRESS is. */
        private void addNumber(int number) {
            for (int unit = 1000; unit > 0; unit /= 10) {
                if (number >= unit || unit == 1) {
                    addByte((char) ('0' + number / unit % 10));
                }
            }
        }

        private void addByte(char b) {
            if (length >= 0 && length < row.length) {
                row[length] = (byte) b;
                length++;
            }
        }
    }
}
