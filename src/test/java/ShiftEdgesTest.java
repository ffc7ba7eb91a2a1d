/** "2 ACTS", 20 to 23: every bit moved by every n. */
final class ShiftEdgesTest {
    private static final int LEFT_BOTH = 20, RIGHT_BOTH = 21, LEFT = 22, RIGHT = 23;
    private static final int MQ_BITS = 35, ALL_BITS = 72, P_OF_BOTH = 70, P_OF_ACC = 35;

    public static void main(String[] args) {
        for (int n = 0; n < 64; n++) {
            for (int bit = 0; bit < ALL_BITS; bit++) {
                leftBoth(bit, n);
                rightBoth(bit, n);
            }
            for (int bit = 0; bit < 37; bit++) {
                left(bit, n);
                right(bit, n);
            }
        }
        lowestSixBits();
        signs();
        overOnlyGoesOn();
        Check.end();
    }

    private static long accOf(int bit) {
        return bit >= MQ_BITS && bit < ALL_BITS ? 1L << bit - MQ_BITS : 0;
    }

    private static long mqOf(int bit) {
        return bit >= 0 && bit < MQ_BITS ? 1L << bit : 0;
    }

    private static TapeCalculator moved(int act, int n, long acc, long mq) {
        TapeCalculator x = new TapeCalculator();
        Check.registers(x, 0, acc, 0, mq, 0);
        Check.once(x, Check.plus(act, n));
        return x;
    }

    /** A bit that starts below P and comes to P, or further, was in P. */
    private static void leftBoth(int bit, int n) {
        int over = bit < P_OF_BOTH && bit + n >= P_OF_BOTH ? 1 : 0;
        Check.dueRegisters("LEFT BOTH " + n + " of bit " + bit, moved(LEFT_BOTH, n, accOf(bit), mqOf(bit)),
            0, accOf(bit + n), 0, mqOf(bit + n), over);
    }

    private static void rightBoth(int bit, int n) {
        Check.dueRegisters("RIGHT BOTH " + n + " of bit " + bit, moved(RIGHT_BOTH, n, accOf(bit), mqOf(bit)),
            0, accOf(bit - n), 0, mqOf(bit - n), 0);
    }

    private static void left(int bit, int n) {
        int over = bit < P_OF_ACC && bit + n >= P_OF_ACC ? 1 : 0;
        Check.dueRegisters("LEFT " + n + " of bit " + bit, moved(LEFT, n, 1L << bit, Check.MOST_SIZE),
            0, bit + n < 37 ? 1L << bit + n : 0, 0, Check.MOST_SIZE, over);
    }

    private static void right(int bit, int n) {
        Check.dueRegisters("RIGHT " + n + " of bit " + bit, moved(RIGHT, n, 1L << bit, Check.MOST_SIZE),
            0, bit >= n ? 1L << bit - n : 0, 0, Check.MOST_SIZE, 0);
    }

    /** "With n the lowest six bits of ADDRESS": 63 is the most, 64 is 0. */
    private static void lowestSixBits() {
        for (int act = LEFT_BOTH; act <= RIGHT; act++) {
            for (int n : new int[] {0, 1, 31, 32, 63}) {
                for (int more : new int[] {64, 128, 512, 2048, 4032}) {
                    TapeCalculator x = moved(act, n, 12345678901L, 23456789012L);
                    TapeCalculator y = moved(act, n + more, 12345678901L, 23456789012L);
                    Check.dueRegisters("act " + act + " by " + (n + more), y, (int) x.told(0), x.told(1),
                        (int) x.told(2), x.told(3), (int) x.told(4));
                }
            }
        }
    }

    /** "THE ACC has THE MQ's SIGN", "THE MQ has THE ACC's SIGN", also if nothing moves; 22 and 23 change none. */
    private static void signs() {
        for (int n : new int[] {0, 1, 63}) {
            for (int sign = 0; sign < 2; sign++) {
                dueSigns(LEFT_BOTH, n, sign, 1 - sign, 1 - sign, 1 - sign);
                dueSigns(RIGHT_BOTH, n, sign, 1 - sign, sign, sign);
                dueSigns(LEFT, n, sign, 1 - sign, sign, 1 - sign);
                dueSigns(RIGHT, n, sign, 1 - sign, sign, 1 - sign);
            }
        }
    }

    private static void dueSigns(int act, int n, int acc, int mq, int accThen, int mqThen) {
        TapeCalculator x = new TapeCalculator();
        Check.registers(x, acc, 0, mq, 0, 0);
        Check.once(x, Check.minus(act, n));
        Check.dueRegisters("SIGNS of act " + act + " by " + n, x, accThen, 0, mqThen, 0, 0);
    }

    private static void overOnlyGoesOn() {
        for (int act = LEFT_BOTH; act <= RIGHT; act++) {
            TapeCalculator x = new TapeCalculator();
            Check.registers(x, 0, 3L << 35, 0, 0, 1);
            Check.once(x, Check.plus(act, 2));
            Check.due("OVER stays on, act " + act, x.told(4), 1);
        }
    }
}
