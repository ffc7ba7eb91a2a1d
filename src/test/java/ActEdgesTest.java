/** "2 ACTS", 2 to 19 and 30: where sums, differences, products, quotients and senses turn. */
final class ActEdgesTest {
    private static final long M = Check.MOST_SIZE, P = 1L << 35, Q = 1L << 36, MOST = Check.MOST_ACC;
    private static final int TAKE = 5, LOAD_LESS = 6, TAKE_SIZE = 7, ADD = 9, LOAD = 10, ADD_SIZE = 11, STORE = 12,
        PART = 13, STORE_MQ = 14, LOAD_MQ = 15, TIMES = 16, TIMES_ROUND = 17, SHARE = 18, ROUND = 19, SENSE = 30;

    public static void main(String[] args) {
        ifOver();
        ifPlus();
        ifZero();
        sumsAtOver();
        sumsModulo();
        overOfEachSum();
        differencesOfAlike();
        differencesByOne();
        differencesWithQAndP();
        loadsOfZero();
        loadsFromAFullAcc();
        storesWithoutQAndP();
        storesOfZero();
        addressBits();
        bitsThatStay();
        products();
        productSigns();
        roundedProducts();
        shareAtTheLimit();
        shareWithQAndP();
        shareByZero();
        shareSigns();
        shareOfTheMost();
        roundAtTheBit();
        roundAtOver();
        senseAddresses();
        lightsOff();
        lightsAsked();
        Check.end();
    }

    private static TapeCalculator with(int accSign, long accSize, int mqSign, long mqSize, int over) {
        TapeCalculator x = new TapeCalculator();
        Check.registers(x, accSign, accSize, mqSign, mqSize, over);
        return x;
    }

    /** Does an ACT with WHOLE 100 and looks at all registers. */
    private static void due(int act, long word, TapeCalculator x, int accSign, long accSize, int mqSign, long mqSize, int over) {
        String what = "act " + act + " of " + word + " at " + x.told(0) + ", " + x.told(1);
        Check.putWhole(x, 100, word);
        Check.due(what, Check.once(x, Check.minus(act, 100)), 0);
        Check.dueRegisters(what, x, accSign, accSize, mqSign, mqSize, over);
        Check.due(what + ": the OPERAND stays", x.whole(100), word);
    }

    private static void dueAcc(int act, long word, TapeCalculator x, int accSign, long accSize, int over) {
        due(act, word, x, accSign, accSize, 1, 77, over);
    }

    private static TapeCalculator acc(int sign, long size) {
        return with(sign, size, 1, 77, 0);
    }

    private static void dueGoes(String what, TapeCalculator x, int act, boolean goes) {
        Check.once(x, Check.plus(act, 9));
        Check.due(what, x.told(5), goes ? 9 : 1);
    }

    /** "if OVER is on, it is off, and GO". */
    private static void ifOver() {
        TapeCalculator x = with(1, 5, 1, 5, 1);
        dueGoes("OVER on", x, 2, true);
        Check.dueRegisters("it alone is off", x, 1, 5, 1, 5, 0);
        dueGoes("OVER off", x, 2, false);
        Check.dueRegisters("it stays off", x, 1, 5, 1, 5, 0);
    }

    /** "if THE ACC's SIGN is plus": with SIZE 0, too, and OVER stays. */
    private static void ifPlus() {
        TapeCalculator x = with(0, 0, 1, 5, 1);
        dueGoes("plus 0", x, 3, true);
        x.set(1, MOST);
        dueGoes("plus, the most", x, 3, true);
        x.set(0, 1);
        dueGoes("minus, the most", x, 3, false);
        x.set(1, 0);
        dueGoes("minus 0", x, 3, false);
        Check.dueRegisters("nothing is changed", x, 1, 0, 1, 5, 1);
    }

    /** "if its SIZE is 0 (37 bits)". */
    private static void ifZero() {
        TapeCalculator x = with(0, 0, 1, 5, 1);
        dueGoes("plus 0", x, 4, true);
        x.set(0, 1);
        dueGoes("minus 0", x, 4, true);
        for (int bit = 0; bit < 37; bit++) {
            x.set(1, 1L << bit);
            dueGoes("bit " + bit, x, 4, false);
        }
    }

    /** "OVER goes on if the lowest 35 bits of both together are 2^35 or more". */
    private static void sumsAtOver() {
        for (int sign = 0; sign < 2; sign++) {
            long minus = sign == 0 ? 0 : P;
            dueAcc(ADD, minus | 1, acc(sign, M - 1), sign, M, 0);
            dueAcc(ADD, minus | 1, acc(sign, M), sign, P, 1);
            dueAcc(ADD, minus | M, acc(sign, 0), sign, M, 0);
            dueAcc(ADD, minus | M, acc(sign, 1), sign, P, 1);
            dueAcc(ADD, minus | M, acc(sign, M), sign, 2 * M, 1);
            dueAcc(ADD, minus | 1L << 34, acc(sign, (1L << 34) - 1), sign, M, 0);
            dueAcc(ADD, minus | 1L << 34, acc(sign, 1L << 34), sign, P, 1);
            dueAcc(ADD, minus | 1, acc(sign, P), sign, P + 1, 0);
            dueAcc(ADD, minus | M, acc(sign, P), sign, P + M, 0);
            dueAcc(ADD, minus | M, acc(sign, P + 1), sign, Q, 1);
            dueAcc(ADD, minus | M, acc(sign, Q), sign, Q + M, 0);
            dueAcc(ADD, minus, acc(sign, MOST), sign, MOST, 0);
        }
        dueAcc(ADD, 1, with(0, 1, 1, 77, 1), 0, 2, 1);
    }

    /** "SIZES together, modulo 2^37". */
    private static void sumsModulo() {
        dueAcc(ADD, 1, acc(0, MOST), 0, 0, 1);
        dueAcc(ADD, 2, acc(0, MOST), 0, 1, 1);
        dueAcc(ADD, 1, acc(0, MOST - 1), 0, MOST, 0);
        dueAcc(ADD, P | M, acc(1, MOST), 1, M - 1, 1);
        dueAcc(ADD, P | M, acc(1, Q + P + 1), 1, 0, 1);
        dueAcc(ADD, P | M, acc(1, Q + P), 1, MOST, 0);
    }

    /** TAKE, ADD SIZE and TAKE SIZE come to 2^35 as ADD does. */
    private static void overOfEachSum() {
        dueAcc(TAKE, P | 1, acc(0, M), 0, P, 1);
        dueAcc(TAKE, 1, acc(1, M), 1, P, 1);
        dueAcc(TAKE, 1, acc(1, M - 1), 1, M, 0);
        dueAcc(ADD_SIZE, 1, acc(0, M), 0, P, 1);
        dueAcc(ADD_SIZE, P | 1, acc(0, M), 0, P, 1);
        dueAcc(ADD_SIZE, P | 1, acc(0, MOST), 0, 0, 1);
        dueAcc(TAKE_SIZE, 1, acc(1, M), 1, P, 1);
        dueAcc(TAKE_SIZE, P | 1, acc(1, M), 1, P, 1);
        dueAcc(TAKE_SIZE, P | 1, acc(1, MOST), 1, 0, 1);
    }

    /** "the SIGN is that of the greater one, THE ACC's if they are alike". */
    private static void differencesOfAlike() {
        for (long size : new long[] {0, 1, 5, M}) {
            dueAcc(ADD, P | size, acc(0, size), 0, 0, 0);
            dueAcc(ADD, size, acc(1, size), 1, 0, 0);
            dueAcc(TAKE, size, acc(0, size), 0, 0, 0);
            dueAcc(TAKE, P | size, acc(1, size), 1, 0, 0);
            dueAcc(ADD_SIZE, size, acc(1, size), 1, 0, 0);
            dueAcc(ADD_SIZE, P | size, acc(1, size), 1, 0, 0);
            dueAcc(TAKE_SIZE, size, acc(0, size), 0, 0, 0);
            dueAcc(TAKE_SIZE, P | size, acc(0, size), 0, 0, 0);
        }
    }

    /** "the lesser SIZE from the greater one": OVER stays as it is. */
    private static void differencesByOne() {
        dueAcc(ADD, P | 6, acc(0, 5), 1, 1, 0);
        dueAcc(ADD, P | 4, acc(0, 5), 0, 1, 0);
        dueAcc(ADD, 6, acc(1, 5), 0, 1, 0);
        dueAcc(ADD, 4, acc(1, 5), 1, 1, 0);
        dueAcc(TAKE, 6, acc(0, 5), 1, 1, 0);
        dueAcc(TAKE, P | 6, acc(1, 5), 0, 1, 0);
        dueAcc(ADD_SIZE, P | 6, acc(1, 5), 0, 1, 0);
        dueAcc(TAKE_SIZE, P | 6, acc(0, 5), 1, 1, 0);
        dueAcc(ADD, P | M, acc(0, M - 1), 1, 1, 0);
        dueAcc(ADD, P | M, with(0, M, 1, 77, 1), 0, 0, 1);
        dueAcc(ADD, P, acc(0, 5), 0, 5, 0);
        dueAcc(ADD, 0, acc(1, 0), 1, 0, 0);
    }

    /** THE ACC's SIZE has 37 bits where it is compared and taken from, too. */
    private static void differencesWithQAndP() {
        dueAcc(ADD, P | M, acc(0, P), 0, 1, 0);
        dueAcc(ADD, P | 1, acc(0, P), 0, M, 0);
        dueAcc(ADD, P | M, acc(0, Q), 0, P + 1, 0);
        dueAcc(ADD, P | 1, acc(0, MOST), 0, MOST - 1, 0);
        dueAcc(ADD, M, acc(1, Q + P), 1, Q + 1, 0);
    }

    /** "(so that it has the SIGN of what comes even if that is 0)". */
    private static void loadsOfZero() {
        for (int sign = 0; sign < 2; sign++) {
            dueAcc(LOAD, 0, acc(sign, 9), 0, 0, 0);
            dueAcc(LOAD, P, acc(sign, 9), 1, 0, 0);
            dueAcc(LOAD_LESS, 0, acc(sign, 9), 1, 0, 0);
            dueAcc(LOAD_LESS, P, acc(sign, 9), 0, 0, 0);
            dueAcc(LOAD, P | 1, acc(sign, 9), 1, 1, 0);
            dueAcc(LOAD_LESS, P | 1, acc(sign, 9), 0, 1, 0);
        }
    }

    /** "THE ACC's SIZE is 0 first": nothing of it, nor of Q and P, is left; OVER stays as it is. */
    private static void loadsFromAFullAcc() {
        for (int over = 0; over < 2; over++) {
            dueAcc(LOAD, M, with(0, MOST, 1, 77, over), 0, M, over);
            dueAcc(LOAD, P | M, with(1, MOST, 1, 77, over), 1, M, over);
            dueAcc(LOAD_LESS, M, with(1, MOST, 1, 77, over), 1, M, over);
            dueAcc(LOAD_LESS, P | M, with(0, MOST, 1, 77, over), 0, M, over);
        }
    }

    /** "12 STORE: THE ACC without Q and P". */
    private static void storesWithoutQAndP() {
        for (int sign = 0; sign < 2; sign++) {
            TapeCalculator x = with(sign, Q + P, 1 - sign, M, 0);
            Check.putWhole(x, 100, 5);
            Check.once(x, Check.minus(STORE, 100));
            Check.due("SIGN " + sign + " and 0", x.whole(100), sign * P);
            x.set(1, MOST);
            Check.once(x, Check.minus(STORE, 100));
            Check.due("SIGN " + sign + " and the most", x.whole(100), sign * P + M);
            Check.once(x, Check.plus(STORE, 103));
            Check.due("SIGN " + sign + " and the most of a HALF", x.half(103), sign * 131072 + 131071);
            Check.once(x, Check.minus(STORE_MQ, 100));
            Check.due("STORE MQ", x.whole(100), (1 - sign) * P + M);
            Check.dueRegisters("they stay", x, sign, MOST, 1 - sign, M, 0);
        }
    }

    /** A SIZE of 0 has a SIGN like any other, wherever it comes to. */
    private static void storesOfZero() {
        for (int sign = 0; sign < 2; sign++) {
            TapeCalculator x = with(sign, 0, 1 - sign, 0, 0);
            Check.once(x, Check.minus(STORE, 100));
            Check.due("ACC of SIGN " + sign, x.whole(100), sign * P);
            Check.once(x, Check.plus(STORE, 103));
            Check.due("ACC of SIGN " + sign + " to a HALF", x.half(103), sign * 131072);
            Check.once(x, Check.minus(STORE_MQ, 100));
            Check.due("MQ of SIGN " + (1 - sign), x.whole(100), (1 - sign) * P);
            Check.once(x, Check.plus(STORE_MQ, 103));
            Check.due("MQ of SIGN " + (1 - sign) + " to a HALF", x.half(103), (1 - sign) * 131072);
            Check.putWhole(x, 104, sign * P);
            Check.once(x, Check.minus(LOAD_MQ, 104));
            Check.dueRegisters("LOAD MQ", x, sign, 0, sign, 0, 0);
        }
    }

    /** 13 with plus: bits 18 to 29 of THE ACC alone come, to bits 0 to 11 of the HALF alone. */
    private static void addressBits() {
        for (int bit = 0; bit < 37; bit++) {
            TapeCalculator x = with(0, 1L << bit, 1, 77, 0);
            int comes = bit >= 18 && bit < 30 ? 1 << bit - 18 : 0;
            Check.once(x, Check.plus(PART, 101));
            Check.due("bit " + bit + " into 0", x.half(101), comes);
            x.put(101, 262143);
            Check.once(x, Check.plus(PART, 101));
            Check.due("bit " + bit + " into all", x.half(101), 262143 - 4095 + comes);
            Check.due("bit " + bit + " beside it", x.half(100), 0);
        }
        TapeCalculator x = with(1, MOST, 1, 77, 0);
        Check.once(x, Check.plus(PART, 511));
        Check.due("minus and all bits", x.half(511), 4095);
        Check.dueRegisters("they stay", x, 1, MOST, 1, 77, 0);
    }

    /** 13 with minus: the SIGN is one of the 36 bits, Q and P are none. */
    private static void bitsThatStay() {
        for (int bit = 0; bit < 37; bit++) {
            TapeCalculator x = with(0, 1L << bit, 1, 77, 0);
            Check.putWhole(x, 100, Check.MOST_WORD);
            Check.once(x, Check.minus(PART, 101));
            Check.due("bit " + bit + " of all", x.whole(100), bit < 35 ? 1L << bit : 0);
            Check.putWhole(x, 100, bit < 36 ? Check.MOST_WORD - (1L << bit) : Check.MOST_WORD);
            Check.once(x, Check.minus(PART, 100));
            Check.due("bit " + bit + " of the others", x.whole(100), 0);
        }
        TapeCalculator x = with(1, MOST - M, 1, 77, 0);
        Check.putWhole(x, 100, Check.MOST_WORD);
        Check.once(x, Check.minus(PART, 100));
        Check.due("the SIGN alone", x.whole(100), P);
        x.set(1, MOST);
        Check.putWhole(x, 100, P | 12345);
        Check.once(x, Check.minus(PART, 100));
        Check.due("all stay", x.whole(100), P | 12345);
        Check.dueRegisters("they stay", x, 1, MOST, 1, 77, 0);
    }

    /** "the highest 35 bits of 70 to THE ACC (Q and P 0), the others to THE MQ". */
    private static void products() {
        due(TIMES, 0, with(0, MOST, 0, M, 0), 0, 0, 0, 0, 0);
        due(TIMES, M, with(0, MOST, 0, 0, 1), 0, 0, 0, 0, 1);
        due(TIMES, 1, with(0, MOST, 0, M, 0), 0, 0, 0, M, 0);
        due(TIMES, M, with(0, MOST, 0, 1, 0), 0, 0, 0, M, 0);
        due(TIMES, 2, with(0, MOST, 0, 1L << 34, 0), 0, 1, 0, 0, 0);
        due(TIMES, 1L << 34, with(0, MOST, 0, 2, 0), 0, 1, 0, 0, 0);
        due(TIMES, 1L << 18, with(0, 0, 0, 1L << 17, 0), 0, 1, 0, 0, 0);
        due(TIMES, 1L << 17, with(0, 0, 0, 1L << 17, 0), 0, 0, 0, 1L << 34, 0);
        due(TIMES, 1L << 34, with(0, 0, 0, 1L << 34, 0), 0, 1L << 33, 0, 0, 0);
        due(TIMES, M, with(0, MOST, 0, M, 0), 0, M - 1, 0, 1, 0);
    }

    /** "both SIGNS: plus when theirs were alike": THE ACC's own is of no weight. */
    private static void productSigns() {
        for (int sign = 0; sign < 8; sign++) {
            int other = sign & 1, mq = sign >> 1 & 1, acc = sign >> 2;
            int comes = other == mq ? 0 : 1;
            due(TIMES, other * P + 3, with(acc, 9, mq, 4, 0), comes, 0, comes, 12, 0);
            due(TIMES, other * P, with(acc, 9, mq, 4, 0), comes, 0, comes, 0, 0);
            due(TIMES_ROUND, other * P + 3, with(acc, 9, mq, 1L << 34, 0), comes, 2, comes, 1L << 34, 0);
        }
    }

    /** "17 TIMES ROUND: then as 19". */
    private static void roundedProducts() {
        due(TIMES_ROUND, 1, with(0, 5, 0, (1L << 34) - 1, 0), 0, 0, 0, (1L << 34) - 1, 0);
        due(TIMES_ROUND, 1, with(0, 5, 0, 1L << 34, 0), 0, 1, 0, 1L << 34, 0);
        due(TIMES_ROUND, M, with(0, 5, 0, M, 1), 0, M - 1, 0, 1, 1);
        due(TIMES_ROUND, M, with(0, MOST, 0, M - 1, 0), 0, M - 2, 0, 2, 0);
    }

    private static void dueStopThree(String what, long word, int accSign, long accSize, long mqSize) {
        Twin.stopsOnly(what, 3, Check.minus(SHARE, 100), () -> {
            TapeCalculator x = with(accSign, accSize, 1, mqSize, 1);
            Check.putWhole(x, 100, word);
            x.set(5, 300);
            return x;
        });
    }

    /** "if the OPERAND's SIZE is not above THE ACC's: STOP 3, nothing else is changed". */
    private static void shareAtTheLimit() {
        for (long size : new long[] {1, 5, M - 1, M}) {
            for (int sign = 0; sign < 2; sign++) {
                dueStopThree("SIZES alike " + size, sign * P + size, 1 - sign, size, 4);
                dueStopThree("one below " + size, sign * P + size - 1, sign, size, 4);
            }
        }
        due(SHARE, 6, with(0, 5, 0, 0, 0), 0, (5L << 35) % 6, 0, (5L << 35) / 6, 0);
        due(SHARE, 1, with(0, 0, 0, M, 0), 0, 0, 0, M, 0);
        due(SHARE, M, with(0, M - 1, 0, 0, 0), 0, M - 1, 0, M - 1, 0);
    }

    /** "THE ACC's (37 bits)": with P or Q no OPERAND is above it. */
    private static void shareWithQAndP() {
        for (long size : new long[] {P, P + 1, Q, Q + P, MOST}) {
            dueStopThree("ACC " + size, M, 0, size, M);
            dueStopThree("ACC, minus " + size, P + 1, 1, size, 0);
        }
    }

    private static void shareByZero() {
        for (long size : new long[] {0, 1, MOST}) {
            dueStopThree("by plus 0 at " + size, 0, 0, size, 3);
            dueStopThree("by minus 0 at " + size, P, 0, size, 3);
        }
    }

    /** "THE MQ's SIGN: plus when those of THE ACC and the OPERAND are alike; THE ACC's stays". */
    private static void shareSigns() {
        for (int sign = 0; sign < 8; sign++) {
            int other = sign & 1, mq = sign >> 1 & 1, acc = sign >> 2;
            due(SHARE, other * P + 7, with(acc, 0, mq, 23, 1), acc, 2, other == acc ? 0 : 1, 3, 1);
            due(SHARE, other * P + 7, with(acc, 0, mq, 0, 0), acc, 0, other == acc ? 0 : 1, 0, 0);
        }
    }

    /** "the cut quotient to THE MQ, the rest to THE ACC": the greatest of both. */
    private static void shareOfTheMost() {
        due(SHARE, M, with(0, M - 1, 0, M - 1, 0), 0, M - 2, 0, M, 0);
        due(SHARE, M, with(0, M - 1, 0, M, 0), 0, M - 1, 0, M, 0);
        due(SHARE, 2, with(0, 1, 0, M, 0), 0, 1, 0, M, 0);
        due(SHARE, 1L << 34, with(0, (1L << 34) - 1, 0, M, 0), 0, (1L << 34) - 1, 0, M, 0);
        due(SHARE, 3, with(0, 0, 0, 2, 0), 0, 2, 0, 0, 0);
        due(SHARE, 3, with(0, 0, 0, 3, 0), 0, 0, 0, 1, 0);
    }

    private static void dueRound(TapeCalculator x, int accSign, long accSize, int mqSign, long mqSize, int over) {
        String what = "ROUND of " + x.told(1) + " with " + x.told(3);
        Check.due(what, Check.once(x, Check.plus(ROUND, 600)), 0);
        Check.dueRegisters(what, x, accSign, accSize, mqSign, mqSize, over);
    }

    /** "if THE MQ's highest SIZE bit is 1, THE ACC's SIZE is one more". */
    private static void roundAtTheBit() {
        for (int sign = 0; sign < 4; sign++) {
            int acc = sign & 1, mq = sign >> 1;
            for (int bit = 0; bit < 35; bit++) {
                dueRound(with(acc, 5, mq, 1L << bit, 0), acc, bit == 34 ? 6 : 5, mq, 1L << bit, 0);
            }
            dueRound(with(acc, 0, mq, 0, 0), acc, 0, mq, 0, 0);
            dueRound(with(acc, 0, mq, (1L << 34) - 1, 0), acc, 0, mq, (1L << 34) - 1, 0);
            dueRound(with(acc, 0, mq, M, 0), acc, 1, mq, M, 0);
        }
    }

    /** "(OVER as in ADD)". */
    private static void roundAtOver() {
        dueRound(with(0, M - 1, 0, M, 0), 0, M, 0, M, 0);
        dueRound(with(0, M, 0, M, 0), 0, P, 0, M, 1);
        dueRound(with(1, M, 0, M, 0), 1, P, 0, M, 1);
        dueRound(with(1, P, 0, M, 0), 1, P + 1, 0, M, 0);
        dueRound(with(1, P + M, 0, M, 0), 1, Q, 0, M, 1);
        dueRound(with(0, MOST, 0, M, 0), 0, 0, 0, M, 1);
        dueRound(with(0, M, 0, 1, 0), 0, M, 0, 1, 0);
        dueRound(with(0, 3, 0, M, 1), 0, 4, 0, M, 1);
    }

    /** "64 .. 76; others: STOP 4". */
    private static void senseAddresses() {
        for (int address = 0; address < 4096; address++) {
            TapeCalculator x = new TapeCalculator();
            boolean known = address >= 64 && address <= 76;
            Check.due("SENSE " + address, Check.once(x, Check.plus(SENSE, address)), known ? 0 : 4);
            Check.due("place of SENSE " + address, x.told(5), known ? 1 : 0);
            Check.due("LIGHTS of SENSE " + address, x.told(6), address >= 65 && address <= 68 ? 1 << address - 65 : 0);
        }
        for (int address : new int[] {0, 63, 77, 512, 4095}) {
            Twin.stopsOnly("SENSE " + address, 4, Check.minus(SENSE, address), Twin::stopped);
        }
    }

    private static TapeCalculator allLit() {
        TapeCalculator x = new TapeCalculator();
        for (int k = 1; k <= 4; k++) {
            Check.once(x, Check.plus(SENSE, 64 + k));
        }
        return x;
    }

    /** "64: all LIGHTS off"; the SWITCHES stay. */
    private static void lightsOff() {
        TapeCalculator x = allLit();
        x.turn(1, true);
        x.turn(4, true);
        Check.due("all on", x.told(6), 15);
        Check.once(x, Check.plus(SENSE, 64));
        Check.due("all off", x.told(6), 0);
        Check.once(x, Check.plus(SENSE, 64));
        Check.due("off already", x.told(6), 0);
        Check.due("SWITCH 1", x.turn(1, true), 1);
        Check.due("SWITCH 4", x.turn(4, true), 1);
    }

    /** "if that LIGHT is on, it is off, and likewise": it alone. */
    private static void lightsAsked() {
        for (int k = 1; k <= 4; k++) {
            TapeCalculator x = allLit();
            Check.once(x, Check.plus(SENSE, 68 + k));
            Check.due("SWITCH " + k + " is no LIGHT", x.told(5), 1);
            Check.due("all are on yet", x.told(6), 15);
            Check.once(x, Check.minus(SENSE, 72 + k));
            Check.due("LIGHT " + k + " was on", x.told(5), 2);
            Check.due("LIGHT " + k + " is off", x.told(6), 15 - (1 << k - 1));
            x.turn(k, true);
            Check.once(x, Check.plus(SENSE, 72 + k));
            Check.due("LIGHT " + k + " was off", x.told(5), 1);
            Check.due("the others stay", x.told(6), 15 - (1 << k - 1));
        }
    }
}
