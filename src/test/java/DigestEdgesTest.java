/** Promise 19: of a new object, and with one thing in it that is not 0: each value's own place in the digest. */
final class DigestEdgesTest {
    /** The HALVES, told() 0 to 9, two values of each TAPE, THE DRUM's words: so many without an ITEM. */
    private static final int VALUES = 512 + 10 + 4 * 2 + 256;
    private static final int REGISTERS_AT = 512, TAPES_AT = 522, DRUM_AT = TAPES_AT + 8;

    public static void main(String[] args) {
        newObject();
        halves();
        registers();
        toldByActs();
        emptyTapesThatStand();
        itemsOfEachTape();
        drumWords();
        whatIsNotInIt();
        Check.end();
    }

    /** h of so many values, all 0 but some at their places: wraps around as a long does. */
    private static long digestOf(int values, long... placesAndValues) {
        long h = 17;
        for (int at = 0; at < values; at++) {
            h = 31 * h;
            for (int k = 0; k < placesAndValues.length; k += 2) {
                h += placesAndValues[k] == at ? placesAndValues[k + 1] : 0;
            }
        }
        return h;
    }

    private static void newObject() {
        TapeCalculator x = new TapeCalculator();
        Check.due("new", x.digest(), digestOf(VALUES));
        Check.due("new, again", x.digest(), digestOf(VALUES));
    }

    private static void halves() {
        for (int n = 0; n < 512; n++) {
            TapeCalculator x = new TapeCalculator();
            x.put(n, 262143);
            Check.due("HALF " + n, x.digest(), digestOf(VALUES, n, 262143));
        }
    }

    private static void registers() {
        long[] most = {1, Check.MOST_ACC, 1, Check.MOST_SIZE, 1, 511};
        for (int what = 0; what < most.length; what++) {
            TapeCalculator x = new TapeCalculator();
            x.set(what, most[what]);
            Check.due("told " + what, x.digest(), digestOf(VALUES, REGISTERS_AT + what, most[what]));
        }
    }

    /** Each ACT at 511 leaves THE PLACE 0. */
    private static void toldByActs() {
        TapeCalculator x = new TapeCalculator();
        doAt511(x, Check.plus(30, 68));
        Check.due("LIGHTS", x.digest(), digestOf(VALUES, 518, 8));
        doAt511(x, Check.plus(30, 64));
        doAt511(x, Check.plus(26, 128));
        Check.due("CHOSEN", x.digest(), digestOf(VALUES, 521, 14));
        doAt511(x, Check.plus(29, 255));
        Check.due("DRUM PLACE", x.digest(), digestOf(VALUES, 519, 255, 521, 14));
        doAt511(x, Twin.HALT);
        Check.due("STOP", x.digest(), digestOf(VALUES, 519, 255, 520, 1));
    }

    private static void doAt511(TapeCalculator x, int bits) {
        x.put(511, bits);
        x.set(5, 511);
        x.step();
        x.put(511, 0);
    }

    /** A TAPE that is empty has two values, both 0; a FULL one 302. */
    private static void emptyTapesThatStand() {
        TapeCalculator x = new TapeCalculator();
        for (int i = 0; i < 300; i++) {
            x.lay(3, 0);
        }
        Check.due("a full TAPE", x.digest(), digestOf(VALUES + 300, TAPES_AT + 6, 300));
        x.blank(3);
        Check.due("blank", x.digest(), digestOf(VALUES));
        x.lay(0, 0);
        doAt511(x, Check.plus(24, 256));
        doAt511(x, Check.plus(31, 300));
        Check.due("it stands", x.digest(), digestOf(VALUES + 1, TAPES_AT, 1, TAPES_AT + 1, 1, 521, 1));
    }

    /** "of each TAPE how many ITEMS, where it stands, these": an END is - 2 or - 3, as item() tells. */
    private static void itemsOfEachTape() {
        for (int tape = 0; tape < 4; tape++) {
            for (long v : new long[] {1, Check.MOST_WORD, -2, -3}) {
                TapeCalculator x = new TapeCalculator();
                x.lay(tape, 0);
                x.lay(tape, v);
                int at = TAPES_AT + 2 * tape;
                Check.due("tape " + tape + ", " + v, x.digest(), digestOf(VALUES + 2, at, 2, at + 3, v));
            }
        }
        TapeCalculator x = new TapeCalculator();
        x.lay(0, 5);
        x.lay(1, 6);
        Check.due("two tapes", x.digest(),
            digestOf(VALUES + 2, TAPES_AT, 1, TAPES_AT + 2, 5, TAPES_AT + 3, 1, TAPES_AT + 5, 6));
    }

    private static void drumWords() {
        for (int place : new int[] {0, 1, 254, 255}) {
            TapeCalculator x = new TapeCalculator();
            Check.putWhole(x, 100, Check.MOST_WORD);
            doAt511(x, Check.plus(26, 128));
            doAt511(x, Check.plus(29, place));
            doAt511(x, Check.minus(31, 100));
            Check.putWhole(x, 100, 0);
            Check.due("word " + place, x.digest(),
                digestOf(VALUES, 519, (place + 1) % 256, 521, 14, DRUM_AT + place, Check.MOST_WORD));
        }
    }

    /** The SWITCHES, the text and the number of ACTS are no values of it. */
    private static void whatIsNotInIt() {
        TapeCalculator x = new TapeCalculator();
        x.turn(1, true);
        x.turn(4, true);
        x.feed(49, 8);
        doAt511(x, Twin.NOTHING);
        Check.due("acts", x.acts(), 1);
        Check.due("none of them", x.digest(), digestOf(VALUES));
    }
}
