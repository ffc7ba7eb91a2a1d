/** Promise 19: digest, from what the other calls tell. */
final class DigestTest {
    public static void main(String[] args) {
        Check.due("new", new TapeCalculator().digest(), byHand(Twin::fresh));
        Check.due("all parts", allParts().digest(), byHand(DigestTest::allParts));
        Check.due("while a TAPE is written", Twin.writing().digest(), byHand(Twin::writing));
        Check.due("behind a STOP", Twin.stopped().digest(), byHand(Twin::stopped));
        Check.end();
    }

    private static TapeCalculator allParts() {
        TapeCalculator x = new TapeCalculator();
        Check.registers(x, 1, Check.MOST_ACC, 1, 5, 1);
        Check.program(x, 30, Check.plus(26, 128), Check.plus(29, 7), Check.minus(31, 30), Check.plus(30, 66),
            Check.plus(26, 257), Check.minus(31, 30), Check.plus(27, 257), Check.plus(26, 258), Check.minus(31, 32));
        Check.due("run", x.run(9), 9);
        x.lay(3, 4);
        return x;
    }

    /** Each part is asked of an object of its own, as all of them are more than the 512 calls of one. */
    private static long byHand(Twin.Maker maker) {
        long h = 17;
        TapeCalculator x = maker.make();
        for (int n = 0; n < 512; n++) {
            x = n % 256 == 0 ? maker.make() : x;
            h = 31 * h + x.half(n);
        }
        x = maker.make();
        for (int what = 0; what <= 9; what++) {
            h = 31 * h + x.told(what);
        }
        for (int tape = 0; tape < 4; tape++) {
            h = tapeByHand(maker.make(), tape, h);
        }
        x = maker.make();
        for (int i = 0; i < 256; i++) {
            h = 31 * h + x.drum(i);
        }
        return h;
    }

    private static long tapeByHand(TapeCalculator x, int tape, long start) {
        int count = 0;
        while (x.item(tape, count) != Check.NONE) {
            count++;
        }
        long h = 31 * (31 * start + count) + x.stands(tape);
        for (int i = 0; i < count; i++) {
            h = 31 * h + x.item(tape, i);
        }
        return h;
    }
}
