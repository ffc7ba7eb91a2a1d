/** The acts 24 to 29 and COPY; promises 11 to 15: item, lay, stands, blank, drum. */
final class UnitsTest {
    private static final int READ = 24, BACK = 25, WRITE = 26, WRITE_END = 27, REWIND = 28, SET_DRUM = 29, COPY = 31;

    public static void main(String[] args) {
        layAndItem();
        blankTapes();
        chosen();
        noSuchUnits();
        writeAndReadForward();
        readBackward();
        endsPassOver();
        halvesAreCopied();
        recordsEndByEachStop();
        recordsEndByUnitActs();
        writeCutsTheTape();
        fullTapes();
        handAndWrite();
        drumWords();
        Check.end();
    }

    private static int act(TapeCalculator x, int act, int tape) {
        return Check.once(x, Check.plus(act, 256 + tape));
    }

    private static int copyWhole(TapeCalculator x, int address) {
        return Check.once(x, Check.minus(COPY, address));
    }

    private static void fill(TapeCalculator x, int tape, int count) {
        for (int i = 0; i < count; i++) {
            x.lay(tape, i);
        }
    }

    private static void layAndItem() {
        TapeCalculator x = new TapeCalculator();
        Check.due("lay", x.lay(3, 0), 1);
        Check.due("lay most", x.lay(3, Check.MOST_WORD), 2);
        Check.due("lay record", x.lay(3, -2), 3);
        Check.due("lay file", x.lay(3, -3), 4);
        for (long v : new long[] {-1, -4, -9, Check.MOST_WORD + 1, Long.MIN_VALUE, Long.MAX_VALUE}) {
            Check.due("lay " + v, x.lay(3, v), Check.BAD);
        }
        Check.dueTape("laid", x, 3, 0, 0, Check.MOST_WORD, Check.RECORD, Check.FILE);
        Check.due("item(3, -1)", x.item(3, -1), Check.NONE);
        Check.due("item(3, 300)", x.item(3, 300), Check.NONE);
        Check.due("item(3, most)", x.item(3, Integer.MAX_VALUE), Check.NONE);
        for (int tape : new int[] {-1, 4, Integer.MIN_VALUE, Integer.MAX_VALUE}) {
            Check.due("item of " + tape, x.item(tape, 0), Check.BAD);
            Check.due("lay of " + tape, x.lay(tape, 0), Check.BAD);
            Check.due("stands of " + tape, x.stands(tape), Check.BAD);
            Check.due("blank of " + tape, x.blank(tape), Check.BAD);
        }
        fill(x, 2, 299);
        Check.due("lay 300th", x.lay(2, 1), 300);
        Check.due("lay 301st", x.lay(2, 1), Check.FULL);
        Check.due("lay 301st, wrong", x.lay(2, -1), Check.BAD);
        Check.due("blank of 300", x.blank(2), 300);
    }

    private static void blankTapes() {
        TapeCalculator x = new TapeCalculator();
        fill(x, 1, 3);
        act(x, READ, 1);
        copyWhole(x, 100);
        Check.due("blank", x.blank(1), 3);
        Check.dueTape("blank", x, 1, 0);
        Check.due("still CHOSEN", x.told(9), 2);
        act(x, WRITE, 1);
        copyWhole(x, 100);
        Check.due("blank of what is written", x.blank(1), 1);
        Check.due("still CHOSEN for WRITE", x.told(9), 10);
        act(x, REWIND, 0);
        Check.dueTape("no word was written since", x, 1, 0);
        act(x, WRITE, 1);
        copyWhole(x, 100);
        x.blank(2);
        act(x, REWIND, 0);
        Check.dueTape("another one's blank", x, 1, 2, 0, Check.RECORD);
    }

    private static void chosen() {
        TapeCalculator x = new TapeCalculator();
        for (int t = 0; t < 4; t++) {
            Check.due("READ", act(x, READ, t), 0);
            Check.due("READ " + t, x.told(9), 1 + t);
            Check.due("READ BACK", act(x, BACK, t), 0);
            Check.due("READ BACK " + t, x.told(9), 5 + t);
            Check.due("WRITE", act(x, WRITE, t), 0);
            Check.due("WRITE " + t, x.told(9), 9 + t);
            Check.due("WRITE END", act(x, WRITE_END, t), 0);
            Check.due("WRITE END " + t, x.told(9), 0);
            act(x, READ, t);
            Check.due("REWIND", act(x, REWIND, t), 0);
            Check.due("REWIND " + t, x.told(9), 0);
        }
        Check.due("READ with minus, odd", Check.once(x, Check.minus(READ, 257)), 0);
        Check.due("tape 1", x.told(9), 2);
        Check.once(x, Check.plus(READ, 128));
        Check.due("DRUM READ", x.told(9), 13);
        Check.once(x, Check.plus(WRITE, 128));
        Check.due("DRUM WRITE", x.told(9), 14);
        x.put(0, 0);
        x.set(5, 0);
        x.step();
        Check.due("none behind HALT", x.told(9), 0);
    }

    private static void noSuchUnits() {
        TapeCalculator x = new TapeCalculator();
        for (int act = READ; act <= REWIND; act++) {
            for (int address : new int[] {0, 127, 129, 255, 260, 4095}) {
                Check.due(act + " of " + address, Check.once(x, Check.plus(act, address)), 4);
            }
        }
        for (int act : new int[] {BACK, WRITE_END, REWIND}) {
            Check.due(act + " of THE DRUM", Check.once(x, Check.plus(act, 128)), 4);
        }
        Check.due("SET DRUM without it", Check.once(x, Check.plus(SET_DRUM, 5)), 4);
        act(x, READ, 0);
        Check.due("SET DRUM with a tape", Check.once(x, Check.plus(SET_DRUM, 5)), 4);
        Check.due("none behind STOP 4", x.told(9), 0);
        Check.due("DRUM PLACE", x.told(7), 0);
        Check.due("COPY without a unit", copyWhole(x, 100), 6);
    }

    private static void writeAndReadForward() {
        TapeCalculator x = new TapeCalculator();
        Check.putWhole(x, 100, Check.negative(11));
        Check.putWhole(x, 102, 12);
        act(x, WRITE, 2);
        copyWhole(x, 100);
        copyWhole(x, 103);
        Check.dueTape("written", x, 2, 2, Check.negative(11), 12);
        act(x, WRITE_END, 2);
        Check.dueTape("ended", x, 2, 4, Check.negative(11), 12, Check.RECORD, Check.FILE);
        act(x, REWIND, 2);
        Check.due("rewound", x.stands(2), 0);
        act(x, READ, 2);
        Check.due("COPY", copyWhole(x, 200), 0);
        Check.due("the word", x.whole(200), Check.negative(11));
        Check.due("it stands", x.stands(2), 1);
        Check.due("place", x.told(5), 1);
        Check.due("CHOSEN yet", x.told(9), 3);
    }

    private static void readBackward() {
        TapeCalculator x = new TapeCalculator();
        x.lay(0, 5);
        x.lay(0, 6);
        act(x, READ, 0);
        copyWhole(x, 100);
        copyWhole(x, 100);
        act(x, BACK, 0);
        copyWhole(x, 100);
        Check.due("the last", x.whole(100), 6);
        Check.due("ahead of it", x.stands(0), 1);
        copyWhole(x, 100);
        Check.due("the first", x.whole(100), 5);
        Check.due("CHOSEN yet", x.told(9), 5);
        Check.due("ahead of all", copyWhole(x, 102), 0);
        Check.due("one more", x.told(5), 2);
        Check.due("none CHOSEN", x.told(9), 0);
        Check.due("it stands there", x.stands(0), 0);
        Check.due("nothing comes", x.whole(102), 0);
    }

    private static void endsPassOver() {
        endMet(READ, Check.RECORD, 3, 1);
        endMet(READ, Check.FILE, 2, 1);
        endMet(BACK, Check.RECORD, 3, 0);
        endMet(BACK, Check.FILE, 2, 0);
        TapeCalculator x = new TapeCalculator();
        act(x, READ, 0);
        copyWhole(x, 100);
        Check.due("nothing passes over one", x.told(5), 2);
        Check.due("nothing: it stands", x.stands(0), 0);
        Check.due("nothing: none CHOSEN", x.told(9), 0);
    }

    private static void endMet(int way, long end, int place, int stands) {
        TapeCalculator x = new TapeCalculator();
        x.lay(1, end);
        if (way == BACK) {
            act(x, READ, 1);
            copyWhole(x, 100);
        }
        x.put(100, 77);
        act(x, way, 1);
        String what = "act " + way + ", end " + end;
        Check.due(what, copyWhole(x, 100), 0);
        Check.due(what + " place", x.told(5), place);
        Check.due(what + " stands", x.stands(1), stands);
        Check.due(what + " CHOSEN", x.told(9), 0);
        Check.due(what + " nothing comes", x.half(100), 77);
    }

    private static void halvesAreCopied() {
        TapeCalculator x = new TapeCalculator();
        x.put(101, 131072 + 9);
        act(x, WRITE, 0);
        Check.once(x, Check.plus(COPY, 101));
        Check.due("HALF as a WHOLE", x.item(0, 0), Check.negative(9L << 18));
        x.lay(1, (5L << 18) + 3);
        act(x, READ, 1);
        x.put(103, 44);
        Check.once(x, Check.plus(COPY, 102));
        Check.due("the higher HALF comes", x.half(102), 5);
        Check.due("nothing beside it", x.half(103), 44);
    }

    private static void recordsEndByEachStop() {
        int[][] stopping = {{Check.plus(0, 9), 1}, {Check.plus(COPY, 512), 2}, {Check.plus(18, 300), 3},
            {Check.plus(READ, 0), 4}, {Check.plus(SET_DRUM, 0), 4}};
        for (int[] row : stopping) {
            TapeCalculator x = new TapeCalculator();
            act(x, WRITE, 0);
            copyWhole(x, 100);
            Check.due("STOP", Check.once(x, row[0]), row[1]);
            Check.dueTape("STOP " + row[1], x, 0, 2, 0, Check.RECORD);
            Check.due("none CHOSEN", x.told(9), 0);
            Check.once(x, row[0]);
            Check.dueTape("once alone " + row[1], x, 0, 2, 0, Check.RECORD);
        }
        TapeCalculator x = new TapeCalculator();
        act(x, WRITE, 0);
        Check.once(x, Check.plus(0, 9));
        Check.dueTape("no word, no END", x, 0, 0);
    }

    private static void recordsEndByUnitActs() {
        int[] acts = {Check.plus(READ, 257), Check.plus(BACK, 258), Check.plus(WRITE, 256), Check.plus(WRITE, 257),
            Check.plus(WRITE_END, 257), Check.plus(REWIND, 257), Check.plus(READ, 128), Check.plus(WRITE, 128)};
        for (int bits : acts) {
            TapeCalculator x = new TapeCalculator();
            act(x, WRITE, 0);
            copyWhole(x, 100);
            Check.due("no STOP", Check.once(x, bits), 0);
            Check.dueTape("bits " + bits, x, 0, 2, 0, Check.RECORD);
        }
        TapeCalculator x = new TapeCalculator();
        act(x, WRITE, 0);
        act(x, WRITE, 0);
        Check.dueTape("no word, no END", x, 0, 0);
        copyWhole(x, 100);
        act(x, REWIND, 0);
        Check.dueTape("END ahead of REWIND", x, 0, 0, 0, Check.RECORD);
    }

    private static void writeCutsTheTape() {
        for (int act : new int[] {WRITE, WRITE_END}) {
            TapeCalculator x = new TapeCalculator();
            fill(x, 3, 5);
            act(x, READ, 3);
            copyWhole(x, 100);
            copyWhole(x, 100);
            act(x, act, 3);
            if (act == WRITE) {
                Check.dueTape("WRITE", x, 3, 2, 0, 1);
            } else {
                Check.dueTape("WRITE END", x, 3, 3, 0, 1, Check.FILE);
            }
        }
    }

    private static TapeCalculator behind(int count) {
        TapeCalculator x = new TapeCalculator();
        fill(x, 0, count);
        Check.program(x, 10, Check.plus(READ, 256), Check.minus(COPY, 100), Check.plus(1, 11));
        x.run(1 + 2 * count);
        Check.due("stands behind all", x.stands(0), count);
        return x;
    }

    private static void fullTapes() {
        TapeCalculator x = behind(300);
        Check.due("WRITE on a full tape", act(x, WRITE, 0), 0);
        Check.due("301st word", copyWhole(x, 100), 5);
        Check.due("none CHOSEN behind STOP 5", x.told(9), 0);
        Check.due("place stays", x.told(5), 0);
        Check.due("301st END OF FILE", act(x, WRITE_END, 0), 5);
        Check.due("no more than 300", x.blank(0), 300);

        x = behind(299);
        act(x, WRITE, 0);
        Check.due("300th word", copyWhole(x, 100), 0);
        Check.due("301st END OF RECORD", act(x, READ, 1), 5);
        Check.due("READ is not done", x.told(9), 0);
        Check.due("HALT behind it", Check.once(x, 0), 1);
        Check.due("nothing was put", x.blank(0), 300);

        x = behind(299);
        act(x, WRITE, 0);
        copyWhole(x, 100);
        Check.due("HALT without room", Check.once(x, 0), 1);
        Check.due("nothing is put", x.blank(0), 300);

        x = behind(298);
        act(x, WRITE, 0);
        copyWhole(x, 100);
        Check.due("END OF FILE without room", act(x, WRITE_END, 0), 5);
        Check.due("END OF RECORD had room", x.item(0, 299), Check.RECORD);
    }

    /** What lay() puts while the tape is written is behind what is written: nothing says that it is gone. */
    private static void handAndWrite() {
        TapeCalculator x = new TapeCalculator();
        act(x, WRITE, 0);
        Check.putWhole(x, 100, 8);
        x.lay(0, 5);
        Check.due("lay does not move it", x.stands(0), 0);
        copyWhole(x, 100);
        Check.dueTape("COPY ahead of it", x, 0, 1, 8, 5);
        act(x, REWIND, 1);
        Check.dueTape("END ahead of it", x, 0, 2, 8, Check.RECORD, 5);
    }

    private static void drumWords() {
        TapeCalculator x = new TapeCalculator();
        Check.putWhole(x, 100, Check.negative(21));
        Check.once(x, Check.plus(WRITE, 128));
        Check.once(x, Check.plus(SET_DRUM, 4095));
        Check.due("modulo 256", x.told(7), 255);
        copyWhole(x, 100);
        Check.due("round", x.told(7), 0);
        copyWhole(x, 100);
        Check.due("drum(255)", x.drum(255), Check.negative(21));
        Check.due("drum(0)", x.drum(0), Check.negative(21));
        Check.due("drum(1)", x.drum(1), 0);
        Check.once(x, Check.plus(READ, 128));
        Check.due("DRUM PLACE stays", x.told(7), 1);
        Check.once(x, Check.plus(SET_DRUM, 256));
        copyWhole(x, 200);
        Check.due("read", x.whole(200), Check.negative(21));
        Check.due("one more", x.told(7), 1);
        Check.due("CHOSEN yet", x.told(9), 13);
        Check.due("drum(-1)", x.drum(-1), Check.BAD);
        Check.due("drum(256)", x.drum(256), Check.BAD);
    }
}
