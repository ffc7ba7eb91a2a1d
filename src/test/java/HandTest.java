/** Promises 2 to 7: half, put, whole, told, set, turn. */
final class HandTest {
    private static final int[] NO_HALVES = {-1, 512, 513, Integer.MIN_VALUE, Integer.MAX_VALUE};

    public static void main(String[] args) {
        halves();
        wholes();
        registers();
        wrongRegisters();
        switches();
        Check.end();
    }

    private static void halves() {
        TapeCalculator x = new TapeCalculator();
        Check.due("put(0, 5)", x.put(0, 5), 0);
        Check.due("put(0, 262143)", x.put(0, 262143), 5);
        Check.due("put(511, 131072)", x.put(511, 131072), 0);
        Check.due("half(0)", x.half(0), 262143);
        Check.due("half(511)", x.half(511), 131072);
        Check.due("half(1)", x.half(1), 0);
        Check.due("put(0, 262144)", x.put(0, 262144), Check.BAD);
        Check.due("put(0, -1)", x.put(0, -1), Check.BAD);
        Check.due("half(0) behind a bad put", x.half(0), 262143);
        for (int n : NO_HALVES) {
            Check.due("half " + n, x.half(n), Check.BAD);
            Check.due("put " + n, x.put(n, 1), Check.BAD);
            Check.due("whole " + n, x.whole(n), Check.BAD);
        }
    }

    private static void wholes() {
        TapeCalculator x = new TapeCalculator();
        x.put(10, 131073);
        x.put(11, 262143);
        Check.due("whole(10)", x.whole(10), 131073L << 18 | 262143);
        Check.due("whole(11)", x.whole(11), Check.BAD);
        Check.due("whole(511)", x.whole(511), Check.BAD);
        x.put(510, 262143);
        x.put(511, 262142);
        Check.due("whole(510)", x.whole(510), Check.MOST_WORD - 1);
    }

    private static void registers() {
        TapeCalculator x = new TapeCalculator();
        long[] most = {1, Check.MOST_ACC, 1, Check.MOST_SIZE, 1, 511};
        for (int what = 0; what < most.length; what++) {
            Check.due("set most " + what, x.set(what, most[what]), 1);
            Check.due("told " + what, x.told(what), most[what]);
            Check.due("set above " + what, x.set(what, most[what] + 1), Check.BAD);
            Check.due("set below " + what, x.set(what, -1), Check.BAD);
            Check.due("set least of all " + what, x.set(what, Long.MIN_VALUE), Check.BAD);
            Check.due("set 2^32 times 2^20 " + what, x.set(what, 1L << 52), Check.BAD);
            Check.due("told, unchanged " + what, x.told(what), most[what]);
        }
        for (int what = 0; what < most.length; what++) {
            Check.due("set 0 " + what, x.set(what, 0), 1);
            Check.due("told 0 " + what, x.told(what), 0);
        }
    }

    private static void wrongRegisters() {
        TapeCalculator x = new TapeCalculator();
        for (int what = 6; what <= 10; what++) {
            Check.due("set " + what, x.set(what, 0), Check.BAD);
        }
        Check.due("set(-1)", x.set(-1, 0), Check.BAD);
        Check.due("told(-1)", x.told(-1), Check.BAD);
        Check.due("told(10)", x.told(10), Check.BAD);
        Check.due("told(least)", x.told(Integer.MIN_VALUE), Check.BAD);
    }

    private static void switches() {
        TapeCalculator x = new TapeCalculator();
        for (int k = 1; k <= 4; k++) {
            Check.due("on " + k, x.turn(k, true), 0);
            Check.due("on again " + k, x.turn(k, true), 1);
        }
        Check.due("off 2", x.turn(2, false), 1);
        Check.due("off 2 again", x.turn(2, false), 0);
        Check.due("3 is still on", x.turn(3, true), 1);
        for (int k : new int[] {0, 5, -1, 33, Integer.MIN_VALUE, Integer.MAX_VALUE}) {
            Check.due("turn " + k, x.turn(k, true), Check.BAD);
        }
    }
}
