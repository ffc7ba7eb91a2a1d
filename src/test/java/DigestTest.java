/** Promise 19: digest, from what the other calls tell. */
final class DigestTest {
    public static void main(String[] args) {
        TapeCalculator x = new TapeCalculator();
        Check.due("new", x.digest(), byHand(x));
        long before = x.digest();
        x.turn(2, true);
        x.feed(49, 1);
        Check.due("switches and the text are not in it", x.digest(), before);
        Check.registers(x, 1, Check.MOST_ACC, 1, 5, 1);
        Check.program(x, 30, Check.plus(26, 128), Check.plus(29, 7), Check.minus(31, 30), Check.plus(30, 66),
            Check.plus(26, 257), Check.minus(31, 30), Check.plus(27, 257), Check.plus(26, 258), Check.minus(31, 32));
        Check.due("run", x.run(9), 9);
        x.lay(3, 4);
        Check.due("all parts", x.digest(), byHand(x));
        Check.due("a digest changes nothing", x.digest(), byHand(x));
        x.run(1);
        Check.due("behind a STOP", x.digest(), byHand(x));
        Check.end();
    }

    private static long byHand(TapeCalculator x) {
        long h = 17;
        for (int n = 0; n < 512; n++) {
            h = 31 * h + x.half(n);
        }
        for (int what = 0; what <= 9; what++) {
            h = 31 * h + x.told(what);
        }
        for (int tape = 0; tape < 4; tape++) {
            int count = 0;
            while (x.item(tape, count) != Check.NONE) {
                count++;
            }
            h = 31 * h + count;
            h = 31 * h + x.stands(tape);
            for (int i = 0; i < count; i++) {
                h = 31 * h + x.item(tape, i);
            }
        }
        for (int i = 0; i < 256; i++) {
            h = 31 * h + x.drum(i);
        }
        return h;
    }
}
