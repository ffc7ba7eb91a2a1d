/** "4 THE TEXT"; promises 16 to 18: the fewest and the most bytes, LINES, figures and values, and each wrong byte. */
final class TextEdgesTest {
    /** One LINE of each kind, with as many figures as it can have, and with as few. */
    private static final String[] LINES = {"0510 31-4095\n", "0 0+0\n", "0511 =+131071\n", "1 =-0\n",
        "0510 ==-34359738367\n", "2 ==+0\n"};
    /** Bytes that can stand nowhere in a LINE, though they are near to those that can. */
    private static final char[] STRANGE = {0, 9, 11, 13, 31, 33, '*', ',', '.', '/', ':', '<', '>', 'A', 127, 128, 160, 255};

    public static void main(String[] args) {
        bytesOfAFeed();
        countsOfFeeds();
        emptyText();
        fullText();
        numberOfLines();
        lineTwoHundredAndOne();
        addresses();
        actNumbers();
        actAddresses();
        sizesOfHalves();
        sizesOfWholes();
        oddAddresses();
        tooGreatAndTooLong();
        endOfTheText();
        wrongBytes();
        leftOutBytes();
        doubledBytes();
        firstFaultIsTold();
        faultPutsNothing();
        textIsEmptyThen();
        linePutsAsHandDoes();
        laterLines();
        writtenLengths();
        writtenFigures();
        writtenBounds();
        Check.end();
    }

    private static int load(TapeCalculator x, String text) {
        Check.feedText(x, text);
        return x.load();
    }

    private static String shown(String text) {
        return "load of '" + text.replace('\n', '|') + "'";
    }

    /** The text is one LINE that puts these bits to a HALF, which was something else. */
    private static void dueHalf(String text, int n, int bits) {
        TapeCalculator x = new TapeCalculator();
        x.put(n, 262143 - bits);
        Check.due(shown(text), load(x, text), 1);
        Check.due(shown(text) + ": HALF", x.half(n), bits);
    }

    private static void dueWhole(String text, int n, long word) {
        TapeCalculator x = new TapeCalculator();
        Check.putWhole(x, n, Check.MOST_WORD - word);
        Check.due(shown(text), load(x, text), 1);
        Check.due(shown(text) + ": WHOLE", x.whole(n), word);
    }

    private static void dueFault(String text, int place) {
        TapeCalculator x = new TapeCalculator();
        Check.due(shown(text), load(x, text), -10 - place);
        Check.due(shown(text) + ": nothing is put", x.digest(), new TapeCalculator().digest());
    }

    /** "The first n bytes (1 .. 8) of a word, the lowest first": those behind them do not come. */
    private static void bytesOfAFeed() {
        String line = "12 31-56\n";
        for (int n = 1; n <= 8; n++) {
            String fed = line.substring(0, n) + "?".repeat(8 - n);
            long word = 0;
            for (int i = 7; i >= 0; i--) {
                word = word << 8 | fed.charAt(i);
            }
            TapeCalculator x = new TapeCalculator();
            Check.due("feed " + n, x.feed(word, n), n);
            Check.due("the rest", Check.feedText(x, line.substring(n)), 9);
            Check.due("load behind feed " + n, x.load(), 1);
            Check.due("HALF behind feed " + n, x.half(12), Check.minus(31, 56));
        }
    }

    private static void countsOfFeeds() {
        TapeCalculator x = new TapeCalculator();
        Check.due("feed 0", x.feed(48, 0), Check.BAD);
        Check.due("feed 1", x.feed(48, 1), 1);
        Check.due("feed 8", x.feed(48, 8), 9);
        Check.due("feed 9", x.feed(48, 9), Check.BAD);
        Check.due("feed -1", x.feed(48, -1), Check.BAD);
        Check.due("feed 7", x.feed(-1, 7), 16);
    }

    private static void emptyText() {
        TapeCalculator x = new TapeCalculator();
        Check.due("no LINE", x.load(), 0);
        Check.due("and none again", x.load(), 0);
        Check.due("no byte", x.feed(10, 1), 1);
        Check.due("a LINE with nothing", x.load(), -10);
        Check.due("empty again", x.load(), 0);
    }

    /** "the tape of the text (2000 bytes)": 2000 are taken, and all of them are read. */
    private static void fullText() {
        String text = "0000 =+01\n".repeat(200);
        TapeCalculator x = new TapeCalculator();
        Check.due("2000 bytes", Check.feedText(x, text), 2000);
        Check.due("the 2001st", x.feed(10, 1), Check.FULL);
        Check.due("200 LINES", x.load(), 200);
        Check.due("room again", x.feed(48, 1), 1);
        x = new TapeCalculator();
        Check.feedText(x, text.substring(0, 1999) + "?");
        Check.due("the last byte is wrong", x.load(), -10 - 1999);
        x = new TapeCalculator();
        Check.feedText(x, "0 0+0\n".repeat(198) + " ".repeat(812));
        Check.due("a wrong byte far on", x.load(), -10 - 1188);
        x = new TapeCalculator();
        Check.feedText(x, "0000 =+001\n".repeat(181) + "0000 =+00");
        Check.due("the end of a full text", x.load(), -10 - 2000);
    }

    /** "LINES (200 at most)". */
    private static void numberOfLines() {
        for (int lines : new int[] {1, 2, 199, 200}) {
            TapeCalculator x = new TapeCalculator();
            Check.due(lines + " LINES", load(x, "5 8+0\n".repeat(lines - 1) + "6 9+1\n"), lines);
            Check.due("the last one is put", x.half(6), Check.plus(9, 1));
        }
    }

    /** "a 201st LINE at its first byte": whatever that is; nothing is put. */
    private static void lineTwoHundredAndOne() {
        String lines = "5 8+0\n".repeat(200);
        for (String more : new String[] {"5 8+0\n", "5 8+0", "5", "?", "\n", "512 8+0\n", "5 8+0\n5 8+0\n"}) {
            dueFault(lines + more, 1200);
        }
        dueFault("5 8+0\n".repeat(199) + "5 8+?\n5 8+0\n", 1198);
        dueFault("5 8+0\n".repeat(199) + "5 8+0 5 8+0\n", 1199);
    }

    /** "an ADDRESS of a HALF (figures, 1 to 4)", "above 511 likewise" at its first figure. */
    private static void addresses() {
        for (String figures : new String[] {"0", "00", "000", "0000"}) {
            dueHalf(figures + " 9+1\n", 0, Check.plus(9, 1));
        }
        for (String figures : new String[] {"511", "0511"}) {
            dueHalf(figures + " 9+1\n", 511, Check.plus(9, 1));
            dueHalf(figures + " =+1\n", 511, 1);
        }
        for (String figures : new String[] {"512", "0512", "513", "999", "1000", "1023", "9999"}) {
            dueFault(figures + " 9+1\n", 0);
            dueFault(figures + " =+1\n", 0);
            dueFault(figures + " ==+1\n", 0);
            dueFault("7 9+1\n" + figures + " 9+1\n", 6);
        }
        dueFault(" 9+1\n", 0);
        dueFault("00000 9+1\n", 4);
        dueFault("00511 9+1\n", 4);
        dueFault("-1 9+1\n", 0);
        dueFault("+1 9+1\n", 0);
    }

    /** "an ACT: its number (figures, 1 or 2)". */
    private static void actNumbers() {
        for (int act = 0; act < 100; act++) {
            if (act < 32) {
                dueHalf("5 " + act + "+1\n", 5, Check.plus(act, 1));
                dueHalf("5 " + act / 10 + act % 10 + "-1\n", 5, Check.minus(act, 1));
            } else {
                dueFault("5 " + act + "+1\n", 2);
            }
        }
        dueFault("5 +1\n", 2);
        dueFault("5 000+1\n", 4);
        dueFault("5 031+1\n", 4);
        dueFault("5 -1+1\n", 2);
    }

    /** "figures (1 to 4: ADDRESS, below 4096)". */
    private static void actAddresses() {
        for (String figures : new String[] {"0", "00", "000", "0000"}) {
            dueHalf("5 9+" + figures + "\n", 5, Check.plus(9, 0));
        }
        for (int address : new int[] {1, 9, 10, 99, 100, 511, 512, 999, 1000, 4094, 4095}) {
            dueHalf("5 9+" + address + "\n", 5, Check.plus(9, address));
            dueHalf("5 9-" + address + "\n", 5, Check.minus(9, address));
        }
        for (int address : new int[] {4096, 4097, 5000, 9999}) {
            dueFault("5 9+" + address + "\n", 4);
            dueFault("5 19-" + address + "\n", 5);
        }
        dueFault("5 9+\n", 4);
        dueFault("5 9+00000\n", 8);
        dueFault("5 9+04095\n", 8);
        dueFault("5 9+-1\n", 4);
    }

    /** "figures (1 to 6: the SIZE of a HALF, below 131072)". */
    private static void sizesOfHalves() {
        for (int figures = 1; figures <= 6; figures++) {
            dueHalf("5 =+" + "0".repeat(figures) + "\n", 5, 0);
            dueHalf("5 =-" + "0".repeat(figures) + "\n", 5, 131072);
            dueHalf("5 =-" + "0".repeat(figures - 1) + "7\n", 5, 131079);
        }
        for (int size : new int[] {9, 10, 99999, 100000, 131070, 131071}) {
            dueHalf("5 =+" + size + "\n", 5, size);
            dueHalf("5 =-" + size + "\n", 5, 131072 + size);
        }
        for (int size : new int[] {131072, 131073, 200000, 262143, 262144, 999999}) {
            dueFault("5 =+" + size + "\n", 4);
            dueFault("511 =-" + size + "\n", 6);
        }
        dueFault("5 =+\n", 4);
        dueFault("5 =+0000000\n", 10);
        dueFault("5 =+0131071\n", 10);
        dueFault("5 =0\n", 3);
    }

    /** "figures (1 to 11: the SIZE of a WHOLE, below 2^35)". */
    private static void sizesOfWholes() {
        for (int figures = 1; figures <= 11; figures++) {
            dueWhole("6 ==+" + "0".repeat(figures) + "\n", 6, 0);
            dueWhole("6 ==-" + "0".repeat(figures) + "\n", 6, Check.negative(0));
            dueWhole("6 ==-" + "0".repeat(figures - 1) + "7\n", 6, Check.negative(7));
        }
        for (long size : new long[] {9, 10, 262143, 262144, 2147483647L, 2147483648L, 4294967296L, 9999999999L,
            10000000000L, Check.MOST_SIZE - 1, Check.MOST_SIZE}) {
            dueWhole("6 ==+" + size + "\n", 6, size);
            dueWhole("6 ==-" + size + "\n", 6, Check.negative(size));
        }
        for (long size : new long[] {Check.MOST_SIZE + 1, Check.MOST_SIZE + 2, Check.MOST_WORD, 99999999999L}) {
            dueFault("6 ==+" + size + "\n", 5);
            dueFault("510 ==-" + size + "\n", 7);
        }
        dueFault("6 ==+\n", 5);
        dueFault("6 ==+000000000000\n", 16);
        dueFault("6 ==+034359738367\n", 16);
        dueFault("6 ==0\n", 4);
        dueFault("6 ===+0\n", 4);
    }

    /** "(.. at an even ADDRESS)", "an odd ADDRESS of == at its first figure"; of = and of an ACT it may be odd. */
    private static void oddAddresses() {
        for (int n : new int[] {0, 2, 256, 508, 510}) {
            dueWhole(n + " ==+5\n", n, 5);
            dueFault(n + 1 + " ==+5\n", 0);
            dueFault("0 8+0\n" + (n + 1) + " ==-5\n", 6);
            dueHalf(n + 1 + " =+5\n", n + 1, 5);
            dueHalf(n + 1 + " 5+5\n", n + 1, Check.plus(5, 5));
        }
        dueFault("0001 ==+5\n", 0);
        dueFault("0511 ==+5\n", 0);
    }

    /** A number that is too great is told at its first figure though more figures than it can have follow. */
    private static void tooGreatAndTooLong() {
        dueFault("51200 9+1\n", 0);
        dueFault("5 320+1\n", 2);
        dueFault("5 9+40960\n", 4);
        dueFault("5 =+1310720\n", 4);
        dueFault("6 ==+343597383680\n", 5);
    }

    /** "the end of the text, too: it ends in a LINE": behind each byte but the last one of a LINE. */
    private static void endOfTheText() {
        for (String line : LINES) {
            for (int length = 1; length < line.length(); length++) {
                dueFault(line.substring(0, length), length);
                dueFault("0 8+0\n" + line.substring(0, length), 6 + length);
            }
            Check.due(shown(line), load(new TapeCalculator(), line), 1);
            Check.due(shown(line + line), load(new TapeCalculator(), line + line), 2);
        }
    }

    /** "Nothing else": each byte of each LINE in turn is one that can't be. */
    private static void wrongBytes() {
        for (String line : LINES) {
            for (int i = 0; i < line.length(); i++) {
                for (char strange : STRANGE) {
                    dueFault(line.substring(0, i) + strange + line.substring(i + 1), i);
                }
            }
        }
    }

    /** Without one byte of "5 9+1|", "5 =+1|" or "6 ==+1|" the one behind it can't be, or the figures mean less. */
    private static void leftOutBytes() {
        dueFault(" 9+1\n", 0);
        dueFault("59+1\n", 2);
        dueFault("5 +1\n", 2);
        dueFault("5 31\n", 4);
        dueFault("5 9+\n", 4);
        dueFault("5 9+15 9+1\n", 6);
        dueFault("5=+1\n", 1);
        dueFault("5 =1\n", 3);
        dueFault("5 =+\n", 4);
        dueFault("6==+1\n", 1);
        dueFault("6 ==1\n", 4);
        dueFault("6 ==+\n", 5);
    }

    private static void doubledBytes() {
        dueFault("5  9+1\n", 2);
        dueFault("5 9++1\n", 4);
        dueFault("5 9--1\n", 4);
        dueFault("5 9+1\n\n", 6);
        dueFault("5 9+1 \n", 5);
        dueFault(" 5 9+1\n", 0);
        dueFault("5 =++1\n", 4);
        dueFault("5 = +1\n", 3);
        dueFault("6 ==+-1\n", 5);
        dueFault("5 9 +1\n", 3);
        dueFault("5 9+ 1\n", 4);
        dueFault("5 9=1\n", 3);
        dueFault("5 =9+1\n", 3);
    }

    /** "the place of the first byte that can't be". */
    private static void firstFaultIsTold() {
        dueFault("5 9+1\n5 x\n512 9+1\n", 8);
        dueFault("5 9+1\n512 x\n", 6);
        dueFault("512 32+4096\n", 0);
        dueFault("5 32+4096\n", 2);
        dueFault("5 9+4096x\n", 4);
        dueFault("7 ==+34359738368\n", 0);
        dueFault("7 ==x\n", 0);
    }

    /** "nothing is put": not the LINES ahead of the fault either, nor is anything else changed but the text. */
    private static void faultPutsNothing() {
        String ahead = "0 9+1\n511 =-7\n100 ==+9\n";
        faultPutsNothing(ahead + "x", ahead.length());
        faultPutsNothing(ahead + "5", ahead.length() + 1);
        faultPutsNothing(ahead + "512 9+1\n", ahead.length());
        faultPutsNothing(ahead + "5 9+4096\n", ahead.length() + 4);
        faultPutsNothing(ahead + "7 ==+1\n", ahead.length());
    }

    private static void faultPutsNothing(String text, int place) {
        TapeCalculator x = Twin.writing();
        TapeCalculator twin = Twin.writing();
        x.load();
        twin.load();
        Check.due(shown(text), load(x, text), -10 - place);
        Twin.alike(shown(text), x, twin);
    }

    /** "and is empty then": behind LINES that are put, and behind a fault. */
    private static void textIsEmptyThen() {
        TapeCalculator x = new TapeCalculator();
        Check.due("LINES", load(x, "5 9+1\n5 9+2\n"), 2);
        Check.due("empty", x.load(), 0);
        Check.due("a fault", load(x, "5 9+3\n?"), -16);
        Check.due("empty behind a fault", x.load(), 0);
        Check.due("the next byte is the first", x.feed('5', 1), 1);
        Check.due("and stands alone", x.load(), -11);
        Check.due("what was put first stays", x.half(5), Check.plus(9, 2));
    }

    /** A LINE does what put() does, and no more: THE PLACE, the registers, the units stay. */
    private static void linePutsAsHandDoes() {
        TapeCalculator x = Twin.writing();
        TapeCalculator twin = Twin.writing();
        x.load();
        twin.load();
        Check.due("load", load(x, "300 31-77\n0 =-1\n510 ==-262145\n"), 3);
        twin.put(300, Check.minus(31, 77));
        twin.put(0, 131073);
        Check.putWhole(twin, 510, Check.negative(262145));
        Twin.alike("by LINES and by hand", x, twin);
    }

    /** "LINE by LINE": a later one puts over an earlier one. */
    private static void laterLines() {
        TapeCalculator x = new TapeCalculator();
        Check.due("load", load(x, "6 9+1\n6 ==+262145\n7 =-3\n8 ==-1\n9 10+5\n8 =+2\n"), 6);
        Check.due("HALF 6", x.half(6), 1);
        Check.due("HALF 7", x.half(7), 131075);
        Check.due("HALF 8", x.half(8), 2);
        Check.due("HALF 9", x.half(9), Check.plus(10, 5));
    }

    private static void dueWritten(int n, int bits, String want) {
        TapeCalculator x = new TapeCalculator();
        x.put(n, bits);
        for (int i = 0; i < want.length(); i++) {
            Check.due("byte " + i + " of '" + want + "'", x.written(n, i), want.charAt(i));
        }
        Check.due("behind '" + want + "'", x.written(n, want.length()), Check.NONE);
        Check.due("far behind '" + want + "'", x.written(n, 12), Check.NONE);
    }

    /** "byte i of that (without the byte 10); NONE: none such": the shortest and the longest LINE. */
    private static void writtenLengths() {
        dueWritten(0, 0, "0 0+0");
        dueWritten(511, 262143, "511 31-4095");
        dueWritten(0, 131072, "0 0-0");
        dueWritten(511, 131071, "511 31+4095");
    }

    /** "(figures without 0s ahead)": where each number gets one figure more. */
    private static void writtenFigures() {
        for (int n : new int[] {9, 10, 99, 100, 101, 110, 500}) {
            dueWritten(n, Check.plus(8, 0), n + " 8+0");
        }
        for (int act : new int[] {9, 10, 19, 20, 30}) {
            dueWritten(5, Check.minus(act, 7), "5 " + act + "-7");
        }
        for (int address : new int[] {9, 10, 99, 100, 101, 999, 1000, 1001, 1010, 4000}) {
            dueWritten(5, Check.plus(1, address), "5 1+" + address);
        }
    }

    /** "BAD: n, i below 0". */
    private static void writtenBounds() {
        TapeCalculator x = new TapeCalculator();
        Check.due("written(-1, 0)", x.written(-1, 0), Check.BAD);
        Check.due("written(0, 0)", x.written(0, 0), '0');
        Check.due("written(511, 0)", x.written(511, 0), '5');
        Check.due("written(512, 0)", x.written(512, 0), Check.BAD);
        Check.due("written(0, -1)", x.written(0, -1), Check.BAD);
        Check.due("written(0, 4)", x.written(0, 4), '0');
        Check.due("written(0, 5)", x.written(0, 5), Check.NONE);
        Check.due("written(-1, -1)", x.written(-1, -1), Check.BAD);
        Check.due("written(512, 5)", x.written(512, 5), Check.BAD);
    }
}
