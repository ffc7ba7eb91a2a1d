/** "Terms", the store; promises 2 to 4: the first and the last HALF, WHOLE and bit, and what lies beside them. */
final class StoreEdgesTest {
    private static final int ALL = 262143;
    private static final int LOAD = 10, STORE = 12, STORE_MQ = 14, LOAD_MQ = 15;

    public static void main(String[] args) {
        everyHalfIsItsOwn();
        leastAndMostBits();
        everyBitOfAHalf();
        everyWhole();
        signsOfWholes();
        halfTakenAsWhole();
        wholePutToHalf();
        wholeOfAnOddAddress();
        lastOperands();
        Check.end();
    }

    /** "THE STORE has 512 HALVES 0 .. 511": in four objects, as one has 512 calls alone. */
    private static void everyHalfIsItsOwn() {
        for (int part = 0; part < 4; part++) {
            TapeCalculator x = new TapeCalculator();
            for (int n = part * 128; n < part * 128 + 128; n++) {
                Check.due("put " + n, x.put(n, 1000 + n), 0);
            }
            for (int n = part * 128; n < part * 128 + 128; n++) {
                Check.due("half " + n, x.half(n), 1000 + n);
                Check.due("put again " + n, x.put(n, 0), 1000 + n);
            }
        }
    }

    /** "bits not 0 .. 262143". */
    private static void leastAndMostBits() {
        TapeCalculator x = new TapeCalculator();
        for (int n : new int[] {0, 1, 510, 511}) {
            Check.due("most bits", x.put(n, ALL), 0);
            Check.due("too many", x.put(n, ALL + 1), Check.BAD);
            Check.due("too few", x.put(n, -1), Check.BAD);
            Check.due("it had the most", x.put(n, 0), ALL);
            Check.due("too many on 0", x.put(n, ALL + 1), Check.BAD);
            Check.due("it has 0", x.half(n), 0);
        }
    }

    private static void everyBitOfAHalf() {
        TapeCalculator x = new TapeCalculator();
        for (int bit = 0; bit < 18; bit++) {
            x.put(7, 1 << bit);
            Check.due("bit " + bit, x.half(7), 1 << bit);
            Check.due("bit ahead " + bit, x.whole(6), 1L << bit);
            x.put(8, 1 << bit);
            Check.due("bit of the first HALF " + bit, x.whole(8), 1L << bit + 18);
        }
    }

    /** "The HALVES n and n + 1 (n even) are WHOLE n, those of n ahead". */
    private static void everyWhole() {
        for (int part = 0; part < 4; part++) {
            TapeCalculator x = new TapeCalculator();
            for (int n = part * 128; n < part * 128 + 128; n += 2) {
                x.put(n, n + 1);
                x.put(n + 1, ALL - n);
                Check.due("whole " + n, x.whole(n), (n + 1L) * 262144 + ALL - n);
                Check.due("whole, odd " + n, x.whole(n + 1), Check.BAD);
            }
        }
    }

    /** "a SIGN (the highest bit, 1: minus) and a SIZE" of 17 and of 35 bits. */
    private static void signsOfWholes() {
        TapeCalculator x = new TapeCalculator();
        dueLoaded("HALF 131071", x, Check.plus(LOAD, 100), 131071, ALL, 0, 131071L << 18);
        dueLoaded("HALF 131072", x, Check.plus(LOAD, 100), 131072, ALL, 1, 0);
        dueLoaded("HALF 262143", x, Check.plus(LOAD, 100), ALL, ALL, 1, 131071L << 18);
        dueLoaded("WHOLE, most plus", x, Check.minus(LOAD, 100), 131071, ALL, 0, Check.MOST_SIZE);
        dueLoaded("WHOLE, minus 0", x, Check.minus(LOAD, 100), 131072, 0, 1, 0);
        dueLoaded("WHOLE, most minus", x, Check.minus(LOAD, 100), ALL, ALL, 1, Check.MOST_SIZE);
        dueLoaded("WHOLE 2^17 of the second HALF", x, Check.minus(LOAD, 100), 0, 131072, 0, 131072);
    }

    private static void dueLoaded(String what, TapeCalculator x, int bits, int first, int second, int sign, long size) {
        x.put(100, first);
        x.put(101, second);
        Check.once(x, bits);
        Check.due(what + ": SIGN", x.told(0), sign);
        Check.due(what + ": SIZE", x.told(1), size);
    }

    /** "A HALF that is taken as a WHOLE has 18 bits 0 behind it". */
    private static void halfTakenAsWhole() {
        for (int n : new int[] {100, 101, 510, 511}) {
            TapeCalculator x = new TapeCalculator();
            for (int beside : new int[] {99, 100, 101, 102, 509, 510, 511}) {
                x.put(beside, ALL);
            }
            x.put(n, 5);
            Check.once(x, Check.plus(LOAD, n));
            Check.due("ACC of HALF " + n, x.told(1), 5L << 18);
            Check.once(x, Check.plus(LOAD_MQ, n));
            Check.due("MQ of HALF " + n, x.told(3), 5L << 18);
        }
    }

    /** "a WHOLE that is put to a HALF loses its lowest 18 bits": it isn't rounded, and the HALF beside it stays. */
    private static void wholePutToHalf() {
        for (int n : new int[] {100, 101, 510, 511}) {
            TapeCalculator x = new TapeCalculator();
            Check.registers(x, 0, (4L << 18) + ALL, 1, (6L << 18) + ALL, 0);
            Check.once(x, Check.plus(STORE, n));
            Check.due("STORE to HALF " + n, x.half(n), 4);
            Check.due("beside HALF " + n, x.half(n ^ 1), 0);
            Check.once(x, Check.plus(STORE_MQ, n));
            Check.due("STORE MQ to HALF " + n, x.half(n), 131072 + 6);
            Check.due("still beside HALF " + n, x.half(n ^ 1), 0);
        }
    }

    /** "with minus WHOLE ADDRESS less its lowest bit". */
    private static void wholeOfAnOddAddress() {
        for (int address : new int[] {100, 101}) {
            TapeCalculator x = new TapeCalculator();
            Check.registers(x, 1, 77, 0, 0, 0);
            Check.once(x, Check.minus(STORE, address));
            Check.due("WHOLE 100", x.whole(100), Check.negative(77));
            Check.due("ahead of it", x.half(99), 0);
            Check.due("behind it", x.whole(102), 0);
            x.set(1, 0);
            Check.once(x, Check.minus(LOAD, address));
            Check.due("loaded", x.told(1), 77);
        }
    }

    /** ADDRESS 511 is the last one of HALVES and, less its lowest bit, of WHOLES. */
    private static void lastOperands() {
        for (int address : new int[] {510, 511}) {
            TapeCalculator x = new TapeCalculator();
            Check.registers(x, 0, Check.MOST_SIZE, 0, 0, 0);
            Check.due("STORE to the last WHOLE", Check.once(x, Check.minus(STORE, address)), 0);
            Check.due("the last WHOLE", x.whole(510), Check.MOST_SIZE);
            Check.due("the first HALF is the ACT yet", x.half(0), Check.minus(STORE, address));
            Check.due("STORE to the last HALF", Check.once(x, Check.plus(STORE, 511)), 0);
            Check.due("the last HALF", x.half(511), 131071);
            Check.due("the one ahead of it", x.half(510), 131071);
        }
    }
}
