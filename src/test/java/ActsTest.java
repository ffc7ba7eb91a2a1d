/** The acts 0 to 23 and SENSE, by promises 5, 8 and 9. */
final class ActsTest {
    private static final long M = Check.MOST_SIZE;

    public static void main(String[] args) {
        jumps();
        adds();
        overOfAdds();
        loads();
        stores();
        storeParts();
        times();
        shares();
        rounds();
        shiftsOfAcc();
        shiftsOfBoth();
        senses();
        Check.end();
    }

    private static TapeCalculator with(int accSign, long accSize, int mqSign, long mqSize, int over) {
        TapeCalculator x = new TapeCalculator();
        Check.registers(x, accSign, accSize, mqSign, mqSize, over);
        return x;
    }

    private static long placeBehind(TapeCalculator x, int bits) {
        Check.due("jump goes on", Check.once(x, bits), 0);
        return x.told(5);
    }

    private static void jumps() {
        Check.due("GO 511", placeBehind(with(0, 0, 0, 0, 0), Check.plus(1, 511)), 511);
        Check.due("GO 7 with minus", placeBehind(with(0, 0, 0, 0, 0), Check.minus(1, 7)), 7);
        TapeCalculator over = with(0, 0, 0, 0, 1);
        Check.due("IF OVER on", placeBehind(over, Check.plus(2, 9)), 9);
        Check.due("it is off", over.told(4), 0);
        Check.due("IF OVER off", placeBehind(over, Check.plus(2, 9)), 1);
        Check.due("IF PLUS", placeBehind(with(0, 5, 1, 0, 1), Check.plus(3, 9)), 9);
        Check.due("IF PLUS of minus 0", placeBehind(with(1, 0, 0, 0, 0), Check.plus(3, 9)), 1);
        Check.due("IF ZERO", placeBehind(with(1, 0, 0, 3, 0), Check.plus(4, 9)), 9);
        Check.due("IF ZERO of Q", placeBehind(with(0, 1L << 36, 0, 0, 0), Check.plus(4, 9)), 1);
        TapeCalculator halted = with(0, 0, 0, 0, 0);
        Check.due("HALT with minus", Check.once(halted, Check.minus(0, 33)), 1);
        Check.due("its place", halted.told(5), 33);
    }

    /** Does an act with a WHOLE OPERAND at 100. */
    private static void act(String what, TapeCalculator x, int act, long word, long accSign, long accSize, int over) {
        Check.putWhole(x, 100, word);
        Check.due(what, Check.once(x, Check.minus(act, 101)), 0);
        Check.due(what + " SIGN", x.told(0), accSign);
        Check.due(what + " SIZE", x.told(1), accSize);
        Check.due(what + " OVER", x.told(4), over);
    }

    private static void adds() {
        act("ADD alike", with(0, 5, 0, 0, 0), 9, 7, 0, 12, 0);
        act("ADD other, lesser", with(0, 9, 0, 0, 0), 9, Check.negative(7), 0, 2, 0);
        act("ADD other, greater", with(0, 5, 0, 0, 0), 9, Check.negative(7), 1, 2, 0);
        act("ADD other, same size", with(1, 7, 0, 0, 0), 9, 7, 1, 0, 0);
        act("ADD other to Q", with(1, 1L << 36, 0, 0, 0), 9, 1, 1, (1L << 36) - 1, 0);
        act("TAKE", with(0, 5, 0, 0, 0), 5, 7, 1, 2, 0);
        act("TAKE of minus", with(0, 5, 0, 0, 0), 5, Check.negative(7), 0, 12, 0);
        act("ADD SIZE", with(0, 5, 0, 0, 0), 11, Check.negative(7), 0, 12, 0);
        act("ADD SIZE to minus", with(1, 5, 0, 0, 0), 11, Check.negative(7), 0, 2, 0);
        act("TAKE SIZE", with(0, 5, 0, 0, 0), 7, 7, 1, 2, 0);
        act("TAKE SIZE from minus", with(1, 5, 0, 0, 0), 7, Check.negative(7), 1, 12, 0);
        TapeCalculator x = with(0, 1, 0, 0, 0);
        x.put(101, 131072 + 3);
        Check.once(x, Check.plus(9, 101));
        Check.due("ADD HALF", x.told(1), (3L << 18) - 1);
        Check.due("ADD HALF SIGN", x.told(0), 1);
    }

    private static void overOfAdds() {
        act("2^35 exactly", with(0, M, 0, 0, 0), 9, 1, 0, M + 1, 1);
        act("one below", with(0, M - 1, 0, 0, 0), 9, 1, 0, M, 0);
        act("P on is not a carry", with(0, M + 1, 0, 0, 0), 9, 1, 0, M + 2, 0);
        act("from P into Q", with(0, 2 * M + 1, 0, 0, 0), 9, 1, 0, 2 * M + 2, 1);
        act("modulo 2^37", with(1, Check.MOST_ACC, 0, 0, 0), 9, Check.negative(1), 1, 0, 1);
        act("OVER stays on", with(0, 1, 0, 0, 1), 9, 1, 0, 2, 1);
        act("none of a difference", with(0, M, 0, 0, 0), 9, Check.negative(M), 0, 0, 0);
    }

    private static void loads() {
        act("LOAD", with(1, Check.MOST_ACC, 0, 0, 0), 10, 8, 0, 8, 0);
        act("LOAD of minus 0", with(0, 4, 0, 0, 1), 10, Check.negative(0), 1, 0, 1);
        act("LOAD of plus 0", with(1, 4, 0, 0, 0), 10, 0, 0, 0, 0);
        act("LOAD of the most", with(0, M, 0, 0, 0), 10, M, 0, M, 0);
        act("LOAD LESS", with(0, 4, 0, 0, 0), 6, 8, 1, 8, 0);
        act("LOAD LESS of minus", with(1, 4, 0, 0, 0), 6, Check.negative(8), 0, 8, 0);
        act("LOAD LESS of plus 0", with(0, 4, 0, 0, 0), 6, 0, 1, 0, 0);
        TapeCalculator x = with(1, 77, 0, 9, 1);
        Check.putWhole(x, 100, Check.negative(6));
        Check.once(x, Check.minus(15, 100));
        Check.dueRegisters("LOAD MQ", x, 1, 77, 1, 6, 1);
        x.put(101, 5);
        Check.once(x, Check.plus(15, 101));
        Check.dueRegisters("LOAD MQ of a HALF", x, 1, 77, 0, 5L << 18, 1);
    }

    private static void stores() {
        TapeCalculator x = with(1, Check.MOST_ACC - 1, 0, (9L << 18) + 4, 0);
        Check.once(x, Check.minus(12, 101));
        Check.due("STORE WHOLE", x.whole(100), Check.MOST_WORD - 1);
        Check.once(x, Check.plus(12, 103));
        Check.due("STORE HALF", x.half(103), 262143);
        Check.due("beside it", x.half(102), 0);
        Check.once(x, Check.minus(14, 104));
        Check.due("STORE MQ WHOLE", x.whole(104), (9L << 18) + 4);
        Check.once(x, Check.plus(14, 107));
        Check.due("STORE MQ HALF", x.half(107), 9);
        x.set(2, 1);
        Check.once(x, Check.plus(14, 107));
        Check.due("STORE MQ HALF minus", x.half(107), 131072 + 9);
        Check.dueRegisters("stores change no register", x, 1, Check.MOST_ACC - 1, 1, (9L << 18) + 4, 0);
    }

    private static void storeParts() {
        TapeCalculator x = with(1, (0xABCL << 18) + (31L << 30) + 5, 0, 0, 0);
        x.put(100, 262143);
        Check.once(x, Check.plus(13, 100));
        Check.due("ADDRESS alone", x.half(100), 262143 - 4095 + 0xABC);
        x.put(101, 0);
        Check.once(x, Check.plus(13, 101));
        Check.due("ADDRESS into 0", x.half(101), 0xABC);
        Check.putWhole(x, 102, Check.MOST_WORD);
        Check.once(x, Check.minus(13, 103));
        Check.due("1 with both, minus", x.whole(102), Check.negative((0xABCL << 18) + (31L << 30) + 5));
        x.set(0, 0);
        x.set(1, (3L << 35) + 6);
        Check.putWhole(x, 102, Check.negative(3));
        Check.once(x, Check.minus(13, 102));
        Check.due("1 with both, plus; no Q, no P", x.whole(102), 2);
    }

    private static void times() {
        TapeCalculator x = with(1, Check.MOST_ACC, 1, M, 0);
        Check.putWhole(x, 100, M);
        Check.once(x, Check.minus(16, 100));
        Check.dueRegisters("TIMES the most", x, 1, M - 1, 1, 1, 0);
        Check.registers(x, 1, 9, 1, 6, 1);
        Check.putWhole(x, 100, Check.negative(7));
        Check.once(x, Check.minus(16, 100));
        Check.dueRegisters("TIMES alike", x, 0, 0, 0, 42, 1);
        Check.registers(x, 0, 9, 0, 0, 0);
        Check.once(x, Check.minus(16, 100));
        Check.dueRegisters("TIMES of 0", x, 1, 0, 1, 0, 0);
        Check.registers(x, 0, 0, 0, 3, 0);
        x.put(102, 65536);
        Check.once(x, Check.plus(17, 102));
        Check.dueRegisters("TIMES ROUND up", x, 0, 2, 0, 1L << 34, 0);
        Check.registers(x, 0, 0, 0, 2, 0);
        Check.once(x, Check.plus(17, 102));
        Check.dueRegisters("TIMES ROUND as it is", x, 0, 1, 0, 0, 0);
    }

    private static void shares() {
        TapeCalculator x = with(1, 2, 0, 5, 0);
        Check.putWhole(x, 100, 3);
        Check.due("SHARE", Check.once(x, Check.minus(18, 100)), 0);
        Check.dueRegisters("SHARE", x, 1, 0, 1, ((2L << 35) + 5) / 3, 0);
        Check.registers(x, 1, 5, 0, M, 0);
        Check.putWhole(x, 100, Check.negative(M));
        Check.once(x, Check.minus(18, 100));
        Check.dueRegisters("SHARE by the most", x, 1, 5, 0, 6, 0);
        Check.registers(x, 0, M - 1, 1, M, 1);
        Check.once(x, Check.minus(18, 100));
        Check.dueRegisters("SHARE of the most", x, 0, M - 1, 1, M, 1);
        long[] notBelow = {M, M + 1, 1L << 36};
        for (long size : notBelow) {
            Check.registers(x, 1, size, 0, 4, 0);
            Check.due("STOP 3", Check.once(x, Check.minus(18, 100)), 3);
            Check.dueRegisters("STOP 3", x, 1, size, 0, 4, 0);
            Check.due("STOP 3 stays", x.told(5), 0);
        }
        Check.registers(x, 0, 0, 0, 4, 0);
        Check.due("SHARE by 0", Check.once(x, Check.minus(18, 200)), 3);
    }

    private static void rounds() {
        TapeCalculator x = with(1, M, 0, 1L << 34, 0);
        Check.once(x, Check.plus(19, 4095));
        Check.dueRegisters("ROUND with OVER", x, 1, M + 1, 0, 1L << 34, 1);
        Check.registers(x, 1, 4, 0, (1L << 34) - 1, 0);
        Check.once(x, Check.plus(19, 0));
        Check.dueRegisters("ROUND of less", x, 1, 4, 0, (1L << 34) - 1, 0);
        Check.registers(x, 0, Check.MOST_ACC, 1, M, 0);
        Check.once(x, Check.plus(19, 0));
        Check.dueRegisters("ROUND modulo 2^37", x, 0, 0, 1, M, 1);
        Check.registers(x, 0, 1L << 35, 1, M, 0);
        Check.once(x, Check.plus(19, 0));
        Check.dueRegisters("ROUND with P on", x, 0, (1L << 35) + 1, 1, M, 0);
    }

    private static void shiftsOfAcc() {
        TapeCalculator x = with(1, 1, 0, 9, 0);
        Check.once(x, Check.plus(22, 34));
        Check.dueRegisters("LEFT below P", x, 1, 1L << 34, 0, 9, 0);
        Check.once(x, Check.plus(22, 64));
        Check.dueRegisters("LEFT 64 is LEFT 0", x, 1, 1L << 34, 0, 9, 0);
        Check.once(x, Check.plus(22, 65));
        Check.dueRegisters("LEFT into P", x, 1, 1L << 35, 0, 9, 1);
        x.set(4, 0);
        Check.once(x, Check.plus(22, 0));
        Check.dueRegisters("P on, not moved", x, 1, 1L << 35, 0, 9, 0);
        Check.once(x, Check.plus(22, 1));
        Check.dueRegisters("P into Q", x, 1, 1L << 36, 0, 9, 0);
        Check.once(x, Check.plus(22, 1));
        Check.dueRegisters("Q lost", x, 1, 0, 0, 9, 0);
        Check.registers(x, 0, 1, 0, 9, 0);
        Check.once(x, Check.plus(22, 63));
        Check.dueRegisters("LEFT 63 through P", x, 0, 0, 0, 9, 1);
        Check.registers(x, 1, Check.MOST_ACC, 0, 9, 0);
        Check.once(x, Check.minus(23, 36));
        Check.dueRegisters("RIGHT 36", x, 1, 1, 0, 9, 0);
        Check.once(x, Check.plus(23, 127));
        Check.dueRegisters("RIGHT 63", x, 1, 0, 0, 9, 0);
    }

    private static void shiftsOfBoth() {
        TapeCalculator x = with(0, 1, 1, 1L << 34, 0);
        Check.once(x, Check.plus(20, 1));
        Check.dueRegisters("LEFT BOTH 1", x, 1, 3, 1, 0, 0);
        Check.registers(x, 0, 5, 1, 7, 0);
        Check.once(x, Check.plus(20, 0));
        Check.dueRegisters("LEFT BOTH 0 brings the SIGN", x, 1, 5, 1, 7, 0);
        Check.registers(x, 0, 0, 0, 3, 0);
        Check.once(x, Check.plus(20, 35));
        Check.dueRegisters("LEFT BOTH 35", x, 0, 3, 0, 0, 0);
        Check.registers(x, 0, 2, 0, 3, 0);
        Check.once(x, Check.plus(20, 35));
        Check.dueRegisters("LEFT BOTH 35 of Q", x, 0, (1L << 36) + 3, 0, 0, 1);
        Check.registers(x, 0, 0, 0, 1L << 34, 0);
        Check.once(x, Check.plus(20, 36));
        Check.dueRegisters("THE MQ's bit into P", x, 0, 1L << 35, 0, 0, 1);
        Check.registers(x, 0, 0, 0, 1L << 33, 0);
        Check.once(x, Check.plus(20, 36));
        Check.dueRegisters("THE MQ's bit below P", x, 0, 1L << 34, 0, 0, 0);
        Check.registers(x, 1, 3, 0, 4, 0);
        Check.once(x, Check.plus(21, 1));
        Check.dueRegisters("RIGHT BOTH 1", x, 1, 1, 1, (1L << 34) + 2, 0);
        Check.registers(x, 1, Check.MOST_ACC, 0, 4, 0);
        Check.once(x, Check.plus(21, 36));
        Check.dueRegisters("RIGHT BOTH 36", x, 1, 1, 1, M, 0);
        Check.registers(x, 0, 5, 1, 7, 1);
        Check.once(x, Check.plus(21, 0));
        Check.dueRegisters("RIGHT BOTH 0 brings the SIGN", x, 0, 5, 0, 7, 1);
        Check.registers(x, 0, 1L << 36, 0, 0, 0);
        Check.once(x, Check.plus(21, 63));
        Check.dueRegisters("RIGHT BOTH 63", x, 0, 0, 0, 1L << 8, 0);
    }

    private static void senses() {
        TapeCalculator x = new TapeCalculator();
        for (int k = 1; k <= 4; k++) {
            Check.once(x, Check.plus(30, 64 + k));
            Check.due("LIGHTS to " + k, x.told(6), (1 << k) - 1);
        }
        Check.once(x, Check.plus(30, 75));
        Check.due("LIGHT 3 was on", x.told(5), 2);
        Check.due("LIGHT 3 is off", x.told(6), 11);
        Check.once(x, Check.plus(30, 75));
        Check.due("LIGHT 3 was off", x.told(5), 1);
        for (int k = 1; k <= 4; k++) {
            Check.once(x, Check.plus(30, 64 + k));
            Check.due("SENSE LIGHT " + k, Check.once(x, Check.plus(30, 72 + k)), 0);
            Check.due("LIGHT was on " + k, x.told(5), 2);
            Check.due("LIGHT is off " + k, x.told(6) >> k - 1 & 1, 0);
        }
        Check.once(x, Check.plus(30, 66));
        Check.once(x, Check.plus(30, 68));
        Check.once(x, Check.plus(30, 64));
        Check.due("all off", x.told(6), 0);
        for (int k = 1; k <= 4; k++) {
            Check.once(x, Check.plus(30, 68 + k));
            Check.due("SWITCH off " + k, x.told(5), 1);
            x.turn(k, true);
            Check.once(x, Check.plus(30, 68 + k));
            Check.due("SWITCH on " + k, x.told(5), 2);
            Check.due("it stays on " + k, x.turn(k, false), 1);
        }
        for (int address : new int[] {0, 63, 77, 128, 4095}) {
            Check.due("SENSE " + address, Check.once(x, Check.plus(30, address)), 4);
        }
    }
}
