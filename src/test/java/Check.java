import java.nio.charset.StandardCharsets;

/** What the tests share: counting wrong answers, and writing acts and texts shortly. */
final class Check {
    static final int BAD = TapeCalculator.BAD, FULL = TapeCalculator.FULL, NONE = TapeCalculator.NONE;
    static final long RECORD = -2, FILE = -3;
    static final long MOST_SIZE = (1L << 35) - 1;
    static final long MOST_ACC = (1L << 37) - 1;
    static final long MOST_WORD = (1L << 36) - 1;

    private static int wrong = 0;

    private Check() {
    }

    static void due(String call, long got, long want) {
        if (got != want) {
            wrong++;
            System.out.println(call + " answered " + got + ", due is " + want);
        }
    }

    static void isTrue(String what, boolean holds) {
        due(what, holds ? 1 : 0, 1);
    }

    static void end() {
        if (wrong != 0) {
            System.out.println(wrong + " answers are not as due");
            System.exit(1);
        }
    }

    /** The bits of an ACT with plus. */
    static int plus(int act, int address) {
        return act << 12 | address;
    }

    /** The bits of an ACT with minus. */
    static int minus(int act, int address) {
        return 1 << 17 | act << 12 | address;
    }

    /** Puts acts from a place on, and lets THE PLACE be there. */
    static void program(TapeCalculator x, int at, int... halves) {
        for (int i = 0; i < halves.length; i++) {
            x.put(at + i, halves[i]);
        }
        x.set(5, at);
    }

    static void putWhole(TapeCalculator x, int n, long word) {
        x.put(n, (int) (word >> 18));
        x.put(n + 1, (int) (word & 262143));
    }

    static long negative(long size) {
        return 1L << 35 | size;
    }

    /** Does one ACT that stands at 0; answers its STOP. */
    static int once(TapeCalculator x, int bits) {
        x.put(0, bits);
        x.set(5, 0);
        return x.step();
    }

    static void registers(TapeCalculator x, int accSign, long accSize, int mqSign, long mqSize, int over) {
        x.set(0, accSign);
        x.set(1, accSize);
        x.set(2, mqSign);
        x.set(3, mqSize);
        x.set(4, over);
    }

    static void dueRegisters(String what, TapeCalculator x, int accSign, long accSize, int mqSign, long mqSize, int over) {
        due(what + ": ACC SIGN", x.told(0), accSign);
        due(what + ": ACC SIZE", x.told(1), accSize);
        due(what + ": MQ SIGN", x.told(2), mqSign);
        due(what + ": MQ SIZE", x.told(3), mqSize);
        due(what + ": OVER", x.told(4), over);
    }

    static void dueTape(String what, TapeCalculator x, int tape, int stands, long... items) {
        due(what + ": stands", x.stands(tape), stands);
        for (int i = 0; i < items.length; i++) {
            due(what + ": item " + i, x.item(tape, i), items[i]);
        }
        due(what + ": behind all", x.item(tape, items.length), NONE);
    }

    /** Feeds a text; answers what the last feed answered. */
    static int feedText(TapeCalculator x, String text) {
        byte[] bytes = text.getBytes(StandardCharsets.ISO_8859_1);
        int answer = 0;
        for (int from = 0; from < bytes.length; from += 8) {
            int n = Math.min(8, bytes.length - from);
            long word = 0;
            for (int i = n - 1; i >= 0; i--) {
                word = word << 8 | bytes[from + i] & 255;
            }
            answer = x.feed(word, n);
        }
        return answer;
    }

    static String line(TapeCalculator x, int n) {
        StringBuilder line = new StringBuilder();
        for (int i = 0; x.written(n, i) != NONE && i < 100; i++) {
            line.append((char) x.written(n, i));
        }
        return line.toString();
    }
}
