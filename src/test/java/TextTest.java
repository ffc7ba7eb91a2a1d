/** Promises 16 to 18: feed, load, written. */
final class TextTest {
    public static void main(String[] args) {
        feeds();
        loads();
        laterLinesWin();
        faults();
        faultsPutNothing();
        earlierTextIsGone();
        manyLines();
        writtenActs();
        writtenComesBack();
        Check.end();
    }

    private static void feeds() {
        TapeCalculator x = new TapeCalculator();
        for (int n : new int[] {0, -1, 9, Integer.MIN_VALUE, Integer.MAX_VALUE}) {
            Check.due("feed " + n, x.feed(48, n), Check.BAD);
        }
        Check.due("feed 1", x.feed(-1, 1), 1);
        Check.due("feed 8", x.feed(-1, 8), 9);
        for (int i = 0; i < 248; i++) {
            x.feed(0, 8);
        }
        Check.due("feed 1993 + 8", x.feed(0, 8), Check.FULL);
        Check.due("feed 1993 + 7", x.feed(0, 7), 2000);
        Check.due("feed 2001", x.feed(0, 1), Check.FULL);
        Check.due("feed 2000 + 9", x.feed(0, 9), Check.BAD);
        Check.due("load", x.load(), -10);
        Check.due("empty then", x.feed(0, 1), 1);
    }

    private static int load(TapeCalculator x, String text) {
        Check.feedText(x, text);
        return x.load();
    }

    private static void loads() {
        TapeCalculator x = new TapeCalculator();
        Check.due("load acts", load(x, "0 9+100\n0001 31-4095\n511 08+0000\n"), 3);
        Check.due("half 0", x.half(0), Check.plus(9, 100));
        Check.due("half 1", x.half(1), Check.minus(31, 4095));
        Check.due("half 511", x.half(511), Check.plus(8, 0));
        Check.due("load sizes", load(x, "2 =+131071\n3 =-000007\n4 ==-34359738367\n510 ==+00000000005\n"), 4);
        Check.due("half 2", x.half(2), 131071);
        Check.due("half 3", x.half(3), 131072 + 7);
        Check.due("whole 4", x.whole(4), Check.MOST_WORD);
        Check.due("whole 510", x.whole(510), 5);
        Check.due("load nothing", x.load(), 0);
    }

    private static void laterLinesWin() {
        TapeCalculator x = new TapeCalculator();
        Check.due("load", load(x, "6 ==+34359738367\n7 =-1\n6 =+2\n6 =+3\n"), 4);
        Check.due("half 6", x.half(6), 3);
        Check.due("half 7", x.half(7), 131073);
    }

    private static void fault(String text, int place) {
        Check.due("load of '" + text.replace("\n", "|") + "'", load(new TapeCalculator(), text), -10 - place);
    }

    private static void faults() {
        fault("\n", 0);
        fault(" 1 9+0\n", 0);
        fault("x", 0);
        fault("1", 1);
        fault("1\n", 1);
        fault("00001 9+0\n", 4);
        fault("512 9+0\n", 0);
        fault("9999 9+0\n", 0);
        fault("512", 0);
        fault("1  9+0\n", 2);
        fault("1 ", 2);
        fault("1 +0\n", 2);
        fault("1 32+0\n", 2);
        fault("1 123+0\n", 4);
        fault("1 9 +0\n", 3);
        fault("1 9*0\n", 3);
        fault("1 9+\n", 4);
        fault("1 9+", 4);
        fault("1 9+4096\n", 4);
        fault("1 9+00001\n", 8);
        fault("1 9+0", 5);
        fault("1 9+0 \n", 5);
        fault("1 9+0\r\n", 5);
        fault("1 =5\n", 3);
        fault("1 =+\n", 4);
        fault("1 =+131072\n", 4);
        fault("1 =+0131071\n", 10);
        fault("1 ==+5\n", 0);
        fault("2 9+0\n1 ==+5\n", 6);
        fault("2 ===+5\n", 4);
        fault("2 ==5\n", 4);
        fault("2 ==+\n", 5);
        fault("2 ==+34359738368\n", 5);
        fault("2 ==+99999999999\n", 5);
        fault("2 ==+000000000001\n", 16);
        fault("2 9+0\n2 9+0\n\n", 12);
        fault("2 9+0\n600 9+0\n", 6);
        fault("2 9\u00b10\n", 3);
        fault("2 9+0\n5", 7);
    }

    private static void faultsPutNothing() {
        TapeCalculator x = new TapeCalculator();
        x.put(2, 99);
        Check.due("load", load(x, "2 9+0\n3 9+0\nx"), -22);
        Check.due("half 2", x.half(2), 99);
        Check.due("half 3", x.half(3), 0);
        Check.due("the text is empty", x.load(), 0);
    }

    /** What an earlier text left behind the end is no part of a later one. */
    private static void earlierTextIsGone() {
        TapeCalculator x = new TapeCalculator();
        Check.due("a long text", load(x, "3 9+5\n3 9+6\n"), 2);
        Check.due("a text that ends in a LINE", load(x, "3 9+7"), -15);
        Check.due("nothing is put", x.half(3), Check.plus(9, 6));
        Check.due("a shorter text", load(x, "3 9+8\n"), 1);
        Check.due("it is put", x.half(3), Check.plus(9, 8));
    }

    private static void manyLines() {
        TapeCalculator x = new TapeCalculator();
        Check.due("200 LINES", load(x, "0 8+0\n".repeat(200)), 200);
        Check.due("201 LINES", load(x, "0 8+1\n".repeat(201)), -10 - 1200);
        Check.due("nothing is put", x.half(0), Check.plus(8, 0));
        fault("0 8+1\n".repeat(200) + "?", 1200);
        fault("0 8+1\n".repeat(199) + "0 8+x\n0 8+1\n", 1198);
        Check.due("a text of 2000 bytes", load(new TapeCalculator(), "0000 ==+1\n".repeat(200)), 200);
    }

    private static void dueLine(TapeCalculator x, int n, String want) {
        Check.isTrue("written " + n + " is '" + Check.line(x, n) + "', due is '" + want + "'", Check.line(x, n).equals(want));
    }

    private static void writtenActs() {
        TapeCalculator x = new TapeCalculator();
        dueLine(x, 0, "0 0+0");
        x.put(511, Check.minus(31, 4095));
        dueLine(x, 511, "511 31-4095");
        x.put(10, Check.plus(9, 100));
        dueLine(x, 10, "10 9+100");
        x.put(99, Check.minus(10, 1005));
        dueLine(x, 99, "99 10-1005");
        Check.due("written(511, 11)", x.written(511, 11), Check.NONE);
        Check.due("written(511, most)", x.written(511, Integer.MAX_VALUE), Check.NONE);
        Check.due("written(0, -1)", x.written(0, -1), Check.BAD);
        Check.due("written(-1, 0)", x.written(-1, 0), Check.BAD);
        Check.due("written(512, 0)", x.written(512, 0), Check.BAD);
        Check.due("written(512, 99)", x.written(512, 99), Check.BAD);
    }

    private static void writtenComesBack() {
        for (int bits = 0; bits < 262144; bits += 997) {
            TapeCalculator x = new TapeCalculator();
            int n = bits % 512;
            x.put(n, bits);
            String line = Check.line(x, n);
            x.put(n, 0);
            Check.due("load of '" + line + "'", load(x, line + "\n"), 1);
            Check.due("half of '" + line + "'", x.half(n), bits);
        }
    }
}
