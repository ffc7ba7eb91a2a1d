/** Promises 2 to 18: what is refused, and what only asks, changes nothing; just inside of it all is taken. */
final class RefusedTest {
    private static final int BAD = Check.BAD, FULL = Check.FULL, NONE = Check.NONE;
    private static final int LEAST = Integer.MIN_VALUE, MOST = Integer.MAX_VALUE;

    public static void main(String[] args) {
        halves();
        registers();
        switches();
        runs();
        tapes();
        fullTape();
        drum();
        text();
        fullText();
        written();
        asking();
        Check.end();
    }

    private static void halves() {
        for (int n : new int[] {LEAST, -512, -2, -1, 512, 513, 514, 1024, MOST}) {
            Twin.unchanged("half " + n, BAD, x -> x.half(n));
            Twin.unchanged("put " + n, BAD, x -> x.put(n, 1));
            Twin.unchanged("whole " + n, BAD, x -> x.whole(n));
        }
        for (int n : new int[] {1, 101, 509, 511}) {
            Twin.unchanged("whole, odd " + n, BAD, x -> x.whole(n));
        }
        for (int bits : new int[] {LEAST, -262144, -1, 262144, 262145, MOST}) {
            Twin.unchanged("put bits " + bits, BAD, x -> x.put(0, bits));
            Twin.unchanged("put bits " + bits + " to the last", BAD, x -> x.put(511, bits));
        }
    }

    private static void registers() {
        for (int what : new int[] {LEAST, -1, 10, 11, 16, MOST}) {
            Twin.unchanged("told " + what, BAD, x -> x.told(what));
        }
        for (int what : new int[] {LEAST, -1, 6, 7, 8, 9, 10, MOST}) {
            Twin.unchanged("set 0 " + what, BAD, x -> x.set(what, 0));
            Twin.unchanged("set 1 " + what, BAD, x -> x.set(what, 1));
        }
        long[] most = {1, Check.MOST_ACC, 1, Check.MOST_SIZE, 1, 511};
        for (int k = 0; k < most.length; k++) {
            int what = k;
            for (long v : new long[] {Long.MIN_VALUE, -most[k], -1, most[k] + 1, 1L << 40, Long.MAX_VALUE}) {
                Twin.unchanged("set " + what + " " + v, BAD, x -> x.set(what, v));
            }
        }
    }

    private static void switches() {
        for (int k : new int[] {LEAST, -1, 0, 5, 6, 33, 34, MOST}) {
            Twin.unchanged("turn on " + k, BAD, x -> x.turn(k, true));
            Twin.unchanged("turn off " + k, BAD, x -> x.turn(k, false));
        }
    }

    private static void runs() {
        for (int n : new int[] {LEAST, -1, 20001, 20002, MOST}) {
            Twin.unchanged("run " + n, BAD, x -> x.run(n));
        }
    }

    private static void tapes() {
        for (int tape : new int[] {LEAST, -1, 4, 5, 256, MOST}) {
            Twin.unchanged("item of tape " + tape, BAD, x -> x.item(tape, 0));
            Twin.unchanged("no item of tape " + tape, BAD, x -> x.item(tape, -1));
            Twin.unchanged("lay on tape " + tape, BAD, x -> x.lay(tape, 0));
            Twin.unchanged("stands of tape " + tape, BAD, x -> x.stands(tape));
            Twin.unchanged("blank of tape " + tape, BAD, x -> x.blank(tape));
        }
        for (int i : new int[] {LEAST, -1, 3, 299, 300, MOST}) {
            Twin.unchanged("item " + i, NONE, x -> x.item(0, i));
        }
        for (long v : new long[] {Long.MIN_VALUE, -9, -5, -4, -1, 1L << 36, (1L << 36) + 1, Long.MAX_VALUE}) {
            Twin.unchanged("lay " + v, BAD, x -> x.lay(0, v));
            Twin.unchanged("lay " + v + " where it is written", BAD, x -> x.lay(1, v));
        }
    }

    private static TapeCalculator withFullTape() {
        TapeCalculator x = Twin.writing();
        for (int i = 0; i < 300; i++) {
            x.lay(2, i);
        }
        return x;
    }

    private static void fullTape() {
        Check.due("it has 300", withFullTape().blank(2), 300);
        for (long v : new long[] {0, Check.MOST_WORD, -2, -3}) {
            Twin.unchanged("301st " + v, FULL, RefusedTest::withFullTape, x -> x.lay(2, v));
        }
        Twin.unchanged("301st, and no ITEM", BAD, RefusedTest::withFullTape, x -> x.lay(2, -4));
        Twin.unchanged("item 300", NONE, RefusedTest::withFullTape, x -> x.item(2, 300));
        Twin.unchanged("item 299", 299, RefusedTest::withFullTape, x -> x.item(2, 299));
    }

    private static void drum() {
        for (int i : new int[] {LEAST, -256, -1, 256, 257, MOST}) {
            Twin.unchanged("drum " + i, BAD, x -> x.drum(i));
        }
    }

    private static void text() {
        for (int n : new int[] {LEAST, -8, -1, 0, 9, 10, 256, MOST}) {
            Twin.unchanged("feed " + n, BAD, x -> x.feed(48, n));
        }
    }

    private static TapeCalculator withText(int length) {
        TapeCalculator x = Twin.writing();
        x.load();
        Check.feedText(x, "0000 =+01\n".repeat(200).substring(0, length));
        return x;
    }

    /** Bytes that have no room come not even in part. */
    private static void fullText() {
        for (int k = 1; k <= 8; k++) {
            int n = k;
            Check.due("the last " + n, withText(2000 - n).feed(0x0a0a0a0a0a0a0a0aL, n), 2000);
            Twin.unchanged("one too many of " + n, FULL, () -> withText(2001 - n), x -> x.feed(0x0a0a0a0a0a0a0a0aL, n));
            Twin.unchanged(n + " on a full text", FULL, () -> withText(2000), x -> x.feed(0x0a0a0a0a0a0a0a0aL, n));
        }
        Twin.unchanged("0 on a full text", BAD, () -> withText(2000), x -> x.feed(0, 0));
        Twin.unchanged("9 on a full text", BAD, () -> withText(2000), x -> x.feed(0, 9));
    }

    private static void written() {
        for (int n : new int[] {LEAST, -1, 512, MOST}) {
            Twin.unchanged("written of " + n, BAD, x -> x.written(n, 0));
            Twin.unchanged("written of " + n + ", far", BAD, x -> x.written(n, 99));
        }
        for (int i : new int[] {LEAST, -1}) {
            Twin.unchanged("written, byte " + i, BAD, x -> x.written(0, i));
        }
        for (int i : new int[] {11, 12, 256, MOST}) {
            Twin.unchanged("written, byte " + i, NONE, x -> x.written(0, i));
        }
    }

    private static void asking() {
        Twin.unchanged("half", 0, x -> x.half(400));
        Twin.unchanged("whole", 0, x -> x.whole(400));
        Twin.unchanged("drum", 0, x -> x.drum(255));
        Twin.unchanged("item", 5, Twin::writing, x -> x.item(0, 0));
        Twin.unchanged("stands", 0, x -> x.stands(0));
        Twin.unchanged("written", '4', x -> x.written(400, 0));
        Twin.unchanged("told", 0, x -> x.told(9) - x.told(9));
        Twin.unchanged("acts", 0, x -> x.acts() - x.acts());
        Twin.unchanged("digest", 0, x -> x.digest() - x.digest());
    }
}
