/** "3 UNITS"; promises 11 to 14: tapes with no ITEM and with 300, ahead of all and behind all, and their STOPS. */
final class TapeEdgesTest {
    private static final int READ = 24, BACK = 25, WRITE = 26, WRITE_END = 27, REWIND = 28, COPY = 31;
    private static final int COPY_100 = Check.minus(COPY, 100);
    private static final long WORD = Check.negative(12345678901L);
    private static final long RECORD = Check.RECORD, FILE = Check.FILE, NONE = Check.NONE;

    public static void main(String[] args) {
        unitAddresses();
        unitsThatAreNone();
        eachTapeWritten();
        eachTapeRead();
        eachTapeBlank();
        emptyTapeByHand();
        emptyTapeRead();
        emptyTapeWritten();
        mostItemsByHand();
        everyKindOfItem();
        layIsBehindAll();
        layKeepsWhereItStands();
        readingToTheEnd();
        readingBackToTheBeginning();
        readingOfAFullTape();
        writeWhereItStands();
        writeEndWhereItStands();
        lastWordOfATape();
        lastRecordOfATape();
        recordWithoutRoom();
        recordWithoutRoomAtStops();
        stopFiveAlone();
        lastFileOfATape();
        recordAndFileOfOneAct();
        recordAndFileOfTwoTapes();
        noWordNoRecord();
        wordsThatAreNoneSince();
        recordOnce();
        recordAheadOfEachUnitAct();
        recordAtEachStop();
        recordOfAnotherTape();
        noneChosen();
        chosenYet();
        endsLeaveNothingChosen();
        copyWithNothingChosen();
        wordsComeAsTheyAre();
        rewindOfEachTape();
        blankOfEachState();
        blankAndWordsSince();
        Check.end();
    }

    private static int act(TapeCalculator x, int act, int tape) {
        return Check.once(x, Check.plus(act, 256 + tape));
    }

    private static int copy(TapeCalculator x) {
        return Check.once(x, COPY_100);
    }

    private static void fill(TapeCalculator x, int tape, int count) {
        for (int i = 0; i < count; i++) {
            x.lay(tape, i);
        }
    }

    /** A tape 0 of words 0, 1, .. that stands behind so many of them; WHOLE 100 is WORD, nothing is CHOSEN. */
    private static TapeCalculator standing(int count, int stands) {
        TapeCalculator x = new TapeCalculator();
        fill(x, 0, count);
        Check.program(x, 10, Check.plus(READ, 256), COPY_100, Check.plus(1, 11));
        x.run(1 + 2 * stands);
        Check.once(x, Twin.HALT);
        Check.putWhole(x, 100, WORD);
        Check.due("it stands", x.stands(0), stands);
        return x;
    }

    /** The same, CHOSEN for WRITE, with a word written since. */
    private static TapeCalculator written(int itemsThen) {
        TapeCalculator x = standing(itemsThen - 1, itemsThen - 1);
        Check.due("WRITE", act(x, WRITE, 0), 0);
        Check.due("COPY", copy(x), 0);
        return x;
    }

    /** "ADDRESS 256 .. 259 (tapes 0 .. 3)", "24 and 26 of 128", "of others: STOP 4". */
    private static void unitAddresses() {
        for (int act = READ; act <= REWIND; act++) {
            for (int address = 0; address < 4096; address++) {
                boolean tape = address >= 256 && address <= 259;
                boolean drum = address == 128 && (act == READ || act == WRITE);
                TapeCalculator x = new TapeCalculator();
                Check.due("act " + act + " of " + address, Check.once(x, Check.plus(act, address)), tape || drum ? 0 : 4);
                Check.due("PLACE", x.told(5), tape || drum ? 1 : 0);
            }
            Check.due("with minus, odd", Check.once(new TapeCalculator(), Check.minus(act, 257)), 0);
        }
    }

    /** STOP 4 changes no unit: no tape is cut or rewound, nothing gets CHOSEN. */
    private static void unitsThatAreNone() {
        for (int act = READ; act <= REWIND; act++) {
            for (int address : new int[] {0, 127, 129, 255, 260, 384, 512, 4095}) {
                Twin.stopsOnly("act " + act + " of " + address, 4, Check.plus(act, address), Twin::stopped);
            }
        }
        for (int act : new int[] {BACK, WRITE_END, REWIND}) {
            Twin.stopsOnly("act " + act + " of THE DRUM", 4, Check.plus(act, 128), Twin::stopped);
        }
    }

    /** Each of the four: ITEMS gone by WRITE and WRITE END, words, an END OF RECORD, an END OF FILE. */
    private static void eachTapeWritten() {
        for (int t = 0; t < 4; t++) {
            TapeCalculator x = behindOne(t);
            act(x, WRITE, t);
            Check.dueTape("WRITE of " + t, x, t, 1, 0);
            copy(x);
            copy(x);
            Check.dueTape("words of " + t, x, t, 3, 0, WORD, WORD);
            act(x, REWIND, t);
            Check.dueTape("REWIND of " + t, x, t, 0, 0, WORD, WORD, RECORD);
            act(x, WRITE_END, t);
            Check.dueTape("WRITE END of " + t, x, t, 1, FILE);
            x = behindOne(t);
            act(x, WRITE_END, t);
            Check.dueTape("WRITE END behind one of " + t, x, t, 2, 0, FILE);
            x = behindOne(t);
            act(x, WRITE, t);
            copy(x);
            Check.once(x, Twin.HALT);
            Check.dueTape("HALT of " + t, x, t, 3, 0, WORD, RECORD);
            for (int other = 0; other < 4; other++) {
                Check.due("only " + t, x.blank(other), other == t ? 3 : 0);
            }
        }
    }

    /** A tape of 0, 1, 2 that stands behind 0; WHOLE 100 is WORD, nothing is CHOSEN. */
    private static TapeCalculator behindOne(int tape) {
        TapeCalculator x = new TapeCalculator();
        fill(x, tape, 3);
        act(x, READ, tape);
        copy(x);
        Check.once(x, Twin.HALT);
        Check.putWhole(x, 100, WORD);
        return x;
    }

    private static void eachTapeRead() {
        for (int t = 0; t < 4; t++) {
            TapeCalculator x = behindOne(t);
            act(x, READ, t);
            copy(x);
            Check.due("READ of " + t, x.whole(100), 1);
            Check.due("behind it", x.stands(t), 2);
            act(x, BACK, t);
            copy(x);
            copy(x);
            Check.due("READ BACK of " + t, x.whole(100), 0);
            Check.due("ahead of it", x.stands(t), 0);
            Check.due("CHOSEN", x.told(9), 5 + t);
        }
    }

    private static void eachTapeBlank() {
        for (int t = 0; t < 4; t++) {
            TapeCalculator x = behindOne(t);
            Check.due("blank of " + t, x.blank(t), 3);
            Check.dueTape("blank of " + t, x, t, 0);
            x = behindOne(t);
            act(x, WRITE, t);
            copy(x);
            Check.due("blank of what is written " + t, x.blank(t), 2);
            Check.due("CHOSEN yet", x.told(9), 9 + t);
            Check.dueTape("empty " + t, x, t, 0);
            Check.once(x, Twin.HALT);
            Check.dueTape("no word since " + t, x, t, 0);
        }
    }

    private static void emptyTapeByHand() {
        for (int tape = 0; tape < 4; tape++) {
            TapeCalculator x = new TapeCalculator();
            Check.due("no ITEM", x.item(tape, 0), NONE);
            Check.due("it stands", x.stands(tape), 0);
            Check.due("blank", x.blank(tape), 0);
            Check.due("the first ITEM", x.lay(tape, 7), 1);
            Check.due("it is there", x.item(tape, 0), 7);
            Check.due("no second one", x.item(tape, 1), NONE);
            Check.due("it stands ahead of it", x.stands(tape), 0);
            Check.due("blank of one", x.blank(tape), 1);
            Check.due("empty again", x.item(tape, 0), NONE);
        }
    }

    /** "nothing (then, too, nothing is CHOSEN any more): one more besides". */
    private static void emptyTapeRead() {
        for (int way : new int[] {READ, BACK}) {
            for (int tape = 0; tape < 4; tape++) {
                TapeCalculator x = new TapeCalculator();
                Check.putWhole(x, 100, WORD);
                act(x, way, tape);
                Check.due("COPY of nothing", copy(x), 0);
                Check.due("one more besides", x.told(5), 2);
                Check.due("nothing CHOSEN", x.told(9), 0);
                Check.due("nothing comes", x.whole(100), WORD);
                Check.dueTape("it stands", x, tape, 0);
            }
        }
    }

    private static void emptyTapeWritten() {
        TapeCalculator x = new TapeCalculator();
        Check.due("REWIND", act(x, REWIND, 2), 0);
        Check.due("WRITE", act(x, WRITE, 2), 0);
        Check.dueTape("WRITE of nothing", x, 2, 0);
        Check.due("WRITE END", act(x, WRITE_END, 2), 0);
        Check.dueTape("a FILE of nothing", x, 2, 1, FILE);
        Check.due("WRITE END again", act(x, WRITE_END, 2), 0);
        Check.dueTape("two of them", x, 2, 2, FILE, FILE);
        Check.dueTape("another tape", x, 1, 0);
    }

    /** "ITEMS (300 at most)". */
    private static void mostItemsByHand() {
        for (int tape = 0; tape < 4; tape += 3) {
            TapeCalculator x = new TapeCalculator();
            fill(x, tape, 298);
            Check.due("299th", x.lay(tape, 298), 299);
            Check.due("no ITEM 299 yet", x.item(tape, 299), NONE);
            Check.due("300th", x.lay(tape, 299), 300);
            Check.due("301st", x.lay(tape, 300), Check.FULL);
            Check.due("ITEM 0", x.item(tape, 0), 0);
            Check.due("ITEM 299", x.item(tape, 299), 299);
            Check.due("no ITEM 300", x.item(tape, 300), NONE);
            Check.due("another tape has room", x.lay(3 - tape, 5), 1);
            Check.due("blank", x.blank(tape), 300);
            Check.due("room again", x.lay(tape, 5), 1);
        }
    }

    /** "a word 0 .. 2^36 - 1; - 2, - 3". */
    private static void everyKindOfItem() {
        TapeCalculator x = new TapeCalculator();
        Check.due("lay -4", x.lay(0, -4), Check.BAD);
        Check.due("lay -3", x.lay(0, -3), 1);
        Check.due("lay -2", x.lay(0, -2), 2);
        Check.due("lay -1", x.lay(0, -1), Check.BAD);
        Check.due("lay 0", x.lay(0, 0), 3);
        Check.due("lay 2^36 - 1", x.lay(0, Check.MOST_WORD), 4);
        Check.due("lay 2^36", x.lay(0, Check.MOST_WORD + 1), Check.BAD);
        Check.dueTape("all of them", x, 0, 0, FILE, RECORD, 0, Check.MOST_WORD);
    }

    /** "An ITEM is put behind all", wherever the tape stands. */
    private static void layIsBehindAll() {
        for (int stands = 0; stands <= 3; stands++) {
            TapeCalculator x = standing(3, stands);
            Check.due("lay", x.lay(0, 77), 4);
            Check.dueTape("standing at " + stands, x, 0, stands, 0, 1, 2, 77);
        }
    }

    /** A tape that stands behind all stands ahead of what is laid then, and reads that. */
    private static void layKeepsWhereItStands() {
        TapeCalculator x = standing(2, 2);
        act(x, READ, 0);
        x.lay(0, WORD);
        Check.due("COPY", Check.once(x, Check.minus(COPY, 200)), 0);
        Check.due("what was laid", x.whole(200), WORD);
        Check.due("CHOSEN yet", x.told(9), 1);
        Check.due("it stands", x.stands(0), 3);
    }

    private static void readingToTheEnd() {
        TapeCalculator x = standing(2, 1);
        act(x, READ, 0);
        Check.due("the last ITEM", copy(x), 0);
        Check.due("it comes", x.whole(100), 1);
        Check.due("PLACE", x.told(5), 1);
        Check.due("CHOSEN yet", x.told(9), 1);
        Check.due("behind all", x.stands(0), 2);
        Check.due("nothing", copy(x), 0);
        Check.due("one more besides", x.told(5), 2);
        Check.due("nothing CHOSEN", x.told(9), 0);
        Check.due("behind all yet", x.stands(0), 2);
        Check.due("nothing came", x.whole(100), 1);
    }

    /** "READ BACK where it stands ahead of all: as nothing". */
    private static void readingBackToTheBeginning() {
        TapeCalculator x = standing(2, 1);
        act(x, BACK, 0);
        Check.due("the first ITEM", copy(x), 0);
        Check.due("it comes", x.whole(100), 0);
        Check.due("PLACE", x.told(5), 1);
        Check.due("CHOSEN yet", x.told(9), 5);
        Check.due("ahead of all", x.stands(0), 0);
        Check.putWhole(x, 100, WORD);
        Check.due("nothing", copy(x), 0);
        Check.due("one more besides", x.told(5), 2);
        Check.due("nothing CHOSEN", x.told(9), 0);
        Check.due("ahead of all yet", x.stands(0), 0);
        Check.due("nothing came", x.whole(100), WORD);
    }

    private static void readingOfAFullTape() {
        TapeCalculator x = standing(300, 299);
        act(x, READ, 0);
        copy(x);
        Check.due("ITEM 299", x.whole(100), 299);
        Check.due("behind all 300", x.stands(0), 300);
        copy(x);
        Check.due("nothing behind it", x.told(5), 2);
        Check.due("behind all 300 yet", x.stands(0), 300);
        act(x, BACK, 0);
        Check.putWhole(x, 100, WORD);
        copy(x);
        Check.due("ITEM 299 backward", x.whole(100), 299);
        Check.due("ahead of ITEM 299", x.stands(0), 299);
        Check.due("REWIND", act(x, REWIND, 0), 0);
        Check.due("ahead of all 300", x.stands(0), 0);
    }

    /** "WRITE: all ITEMS from where it stands on are gone": all, some, none. */
    private static void writeWhereItStands() {
        TapeCalculator x = standing(3, 0);
        act(x, WRITE, 0);
        Check.dueTape("ahead of all", x, 0, 0);
        copy(x);
        Check.dueTape("and a word", x, 0, 1, WORD);
        x = standing(3, 1);
        act(x, WRITE, 0);
        Check.dueTape("behind one", x, 0, 1, 0);
        copy(x);
        Check.dueTape("and a word", x, 0, 2, 0, WORD);
        x = standing(3, 3);
        act(x, WRITE, 0);
        Check.dueTape("behind all", x, 0, 3, 0, 1, 2);
        copy(x);
        Check.dueTape("and a word", x, 0, 4, 0, 1, 2, WORD);
        x = standing(300, 0);
        act(x, WRITE, 0);
        Check.due("all 300 are gone", x.blank(0), 0);
    }

    /** "WRITE END: likewise gone, an END OF FILE is put". */
    private static void writeEndWhereItStands() {
        TapeCalculator x = standing(3, 0);
        act(x, WRITE_END, 0);
        Check.dueTape("ahead of all", x, 0, 1, FILE);
        x = standing(3, 2);
        act(x, WRITE_END, 0);
        Check.dueTape("behind two", x, 0, 3, 0, 1, FILE);
        x = standing(3, 3);
        act(x, WRITE_END, 0);
        Check.dueTape("behind all", x, 0, 4, 0, 1, 2, FILE);
        x = standing(300, 299);
        Check.due("on a full tape", act(x, WRITE_END, 0), 0);
        Check.due("the 300th", x.item(0, 299), FILE);
        Check.due("it stands", x.stands(0), 300);
    }

    /** "(An ITEM that would be the 301st: STOP 5.)": a word. */
    private static void lastWordOfATape() {
        TapeCalculator x = standing(299, 299);
        act(x, WRITE, 0);
        Check.due("300th word", copy(x), 0);
        Check.due("it is there", x.item(0, 299), WORD);
        Check.due("it stands", x.stands(0), 300);
        Check.due("CHOSEN yet", x.told(9), 9);
        Check.due("301st word", copy(x), 5);
        Check.due("told(8)", x.told(8), 5);
        Check.due("PLACE stays", x.told(5), 0);
        Check.due("nothing CHOSEN", x.told(9), 0);
        Check.due("it stands yet", x.stands(0), 300);
        Check.due("the 300th stays", x.item(0, 299), WORD);
        Check.due("300 ITEMS", x.blank(0), 300);
        x = standing(300, 300);
        Check.due("WRITE on a full tape", act(x, WRITE, 0), 0);
        Check.due("301st word at once", copy(x), 5);
        Check.due("300 ITEMS yet", x.blank(0), 300);
    }

    private static void lastRecordOfATape() {
        TapeCalculator x = written(299);
        Check.due("READ of another", act(x, READ, 1), 0);
        Check.due("the 300th", x.item(0, 299), RECORD);
        Check.due("it stands", x.stands(0), 300);
        x = written(299);
        Check.due("HALT", Check.once(x, Twin.HALT), 1);
        Check.due("the 300th by HALT", x.item(0, 299), RECORD);
    }

    /** "(.. without room for it: STOP 5)": the ACT itself isn't done. */
    private static void recordWithoutRoom() {
        int[] acts = {Check.plus(READ, 256), Check.plus(READ, 257), Check.plus(READ, 128), Check.plus(BACK, 256),
            Check.plus(BACK, 259), Check.plus(WRITE, 256), Check.plus(WRITE, 257), Check.plus(WRITE, 128),
            Check.plus(WRITE_END, 256), Check.plus(WRITE_END, 257), Check.plus(REWIND, 256), Check.plus(REWIND, 257)};
        for (int bits : acts) {
            TapeCalculator x = written(300);
            x.lay(1, 5);
            x.lay(1, 6);
            Check.due("STOP 5 of " + bits, Check.once(x, bits), 5);
            Check.due("PLACE stays", x.told(5), 0);
            Check.due("nothing CHOSEN", x.told(9), 0);
            Check.due("it stands", x.stands(0), 300);
            Check.due("the last word stays", x.item(0, 299), WORD);
            Check.dueTape("another tape of " + bits, x, 1, 0, 5, 6);
            Check.due("done when it is asked again", Check.once(x, bits), bits == Check.plus(WRITE_END, 256) ? 5 : 0);
        }
    }

    /** "so does each STOP (without room: nothing is put)": it is that STOP, not STOP 5. */
    private static void recordWithoutRoomAtStops() {
        int[][] stopping = {{Twin.HALT, 1}, {Check.plus(1, 512), 2}, {Check.plus(COPY, 512), 2}, {Check.plus(18, 300), 3},
            {Check.plus(READ, 260), 4}, {Check.plus(29, 5), 4}, {Check.plus(30, 77), 4}, {COPY_100, 5}};
        for (int[] row : stopping) {
            TapeCalculator x = written(300);
            Check.due("STOP without room", Check.once(x, row[0]), row[1]);
            Check.due("told(8)", x.told(8), row[1]);
            Check.due("nothing CHOSEN", x.told(9), 0);
            Check.due("it stands", x.stands(0), 300);
            Check.due("the last word stays", x.item(0, 299), WORD);
            Check.due("REWIND then", act(x, REWIND, 0), 0);
            Check.due("300 ITEMS", x.blank(0), 300);
        }
    }

    /** STOP 5 leaves all as another STOP would in its place: a full tape gets no END OF RECORD by either. */
    private static void stopFiveAlone() {
        for (int bits : new int[] {COPY_100, Check.plus(READ, 257), Check.plus(WRITE, 128), Check.plus(WRITE_END, 256)}) {
            for (int over = 0; over < 2; over++) {
                TapeCalculator x = fullAndUsed(over);
                TapeCalculator twin = fullAndUsed(over);
                x.put(300, bits);
                Check.due("STOP 5 of " + bits, x.step(), 5);
                twin.put(300, Check.plus(30, 0));
                Check.due("STOP 4", twin.step(), 4);
                Twin.forgetStop(x);
                Twin.forgetStop(twin);
                Twin.alike("STOP 5 of " + bits, x, twin);
            }
        }
    }

    private static TapeCalculator fullAndUsed(int over) {
        TapeCalculator x = written(300);
        Check.registers(x, 1, Check.MOST_ACC - 5, over, Check.MOST_SIZE - 9, over);
        Check.once(x, Check.plus(30, 66));
        x.turn(3, true);
        x.set(5, 300);
        return x;
    }

    private static void lastFileOfATape() {
        TapeCalculator x = standing(299, 299);
        Check.due("300th", act(x, WRITE_END, 0), 0);
        Check.due("it is there", x.item(0, 299), FILE);
        Check.due("it stands", x.stands(0), 300);
        Check.due("301st", act(x, WRITE_END, 0), 5);
        Check.due("PLACE stays", x.told(5), 0);
        Check.due("nothing CHOSEN", x.told(9), 0);
        Check.due("it stands yet", x.stands(0), 300);
        Check.due("300 ITEMS", x.blank(0), 300);
    }

    /** WRITE END ends what is written first: room for both, for one of them, for none. */
    private static void recordAndFileOfOneAct() {
        TapeCalculator x = written(298);
        Check.due("room for both", act(x, WRITE_END, 0), 0);
        Check.due("RECORD", x.item(0, 298), RECORD);
        Check.due("FILE", x.item(0, 299), FILE);
        x = written(299);
        Check.due("room for one", act(x, WRITE_END, 0), 5);
        Check.due("it is RECORD", x.item(0, 299), RECORD);
        Check.due("it stands", x.stands(0), 300);
        x = written(300);
        Check.due("room for none", act(x, WRITE_END, 0), 5);
        Check.due("the word stays", x.item(0, 299), WORD);
    }

    /** WRITE END of a full tape: STOP 5, but the record of the tape that was written is ended before. */
    private static void recordAndFileOfTwoTapes() {
        TapeCalculator x = standing(300, 300);
        act(x, WRITE, 1);
        copy(x);
        Check.due("WRITE END", act(x, WRITE_END, 0), 5);
        Check.dueTape("the tape that was written", x, 1, 2, WORD, RECORD);
        Check.due("the full one stands", x.stands(0), 300);
        Check.due("its last ITEM stays", x.item(0, 299), 299);
        Check.due("nothing CHOSEN", x.told(9), 0);
    }

    /** "and a word was written since": without one nothing is put. */
    private static void noWordNoRecord() {
        int[] acts = {Check.plus(READ, 256), Check.plus(BACK, 256), Check.plus(WRITE, 256), Check.plus(WRITE, 128),
            Check.plus(REWIND, 257), Twin.HALT, Check.plus(1, 512), Check.plus(30, 0)};
        for (int bits : acts) {
            TapeCalculator x = standing(2, 2);
            act(x, WRITE, 0);
            Check.once(x, bits);
            Check.dueTape("no word, then " + bits, x, 0, 2, 0, 1);
        }
        TapeCalculator x = standing(300, 300);
        act(x, WRITE, 0);
        Check.due("no word on a full tape", act(x, READ, 0), 0);
        Check.due("CHOSEN", x.told(9), 1);
    }

    /** A word that was read, or written to THE DRUM or to another tape, is none written since. */
    private static void wordsThatAreNoneSince() {
        TapeCalculator x = standing(2, 1);
        act(x, READ, 0);
        copy(x);
        act(x, WRITE, 0);
        act(x, READ, 0);
        Check.dueTape("a word that was read", x, 0, 2, 0, 1);
        Check.once(x, Check.plus(WRITE, 128));
        copy(x);
        act(x, WRITE, 0);
        Check.once(x, Twin.HALT);
        Check.dueTape("a word of THE DRUM", x, 0, 2, 0, 1);
        act(x, WRITE, 1);
        copy(x);
        act(x, WRITE, 0);
        Check.once(x, Twin.HALT);
        Check.dueTape("a word of another tape", x, 0, 2, 0, 1);
        Check.due("that one has its RECORD", x.blank(1), 2);
    }

    /** A word of an earlier WRITE is no word since. */
    private static void recordOnce() {
        TapeCalculator x = written(1);
        act(x, WRITE, 0);
        Check.dueTape("WRITE again", x, 0, 2, WORD, RECORD);
        act(x, WRITE, 0);
        Check.dueTape("and again", x, 0, 2, WORD, RECORD);
        Check.once(x, Twin.HALT);
        Check.dueTape("HALT", x, 0, 2, WORD, RECORD);
        act(x, WRITE, 0);
        copy(x);
        copy(x);
        act(x, READ, 1);
        Check.dueTape("two words, one END", x, 0, 5, WORD, RECORD, WORD, WORD, RECORD);
        Check.once(x, Twin.HALT);
        act(x, WRITE, 1);
        Check.dueTape("ended already", x, 0, 5, WORD, RECORD, WORD, WORD, RECORD);
        Check.dueTape("and none on another", x, 1, 0);
    }

    private static void recordAheadOfEachUnitAct() {
        for (int act = READ; act <= REWIND; act++) {
            TapeCalculator x = written(2);
            Check.due("act " + act, act(x, act, 3), 0);
            Check.dueTape("RECORD ahead of act " + act, x, 0, 3, 0, WORD, RECORD);
            x = written(2);
            Check.due("act " + act + " of the same", act(x, act, 0), 0);
            Check.due("RECORD ahead of act " + act + " of the same", x.item(0, 2), RECORD);
            Check.due("it stands", x.stands(0), act == REWIND ? 0 : act == WRITE_END ? 4 : 3);
            Check.due("what follows", x.item(0, 3), act == WRITE_END ? FILE : NONE);
        }
        for (int act : new int[] {READ, WRITE}) {
            TapeCalculator x = written(2);
            Check.once(x, Check.plus(act, 128));
            Check.dueTape("RECORD ahead of THE DRUM", x, 0, 3, 0, WORD, RECORD);
        }
    }

    /** "so does each STOP". */
    private static void recordAtEachStop() {
        int[][] stopping = {{Twin.HALT, 1}, {Check.plus(3, 512), 2}, {Check.plus(9, 512), 2}, {Check.minus(COPY, 512), 2},
            {Check.plus(18, 300), 3}, {Check.plus(WRITE, 260), 4}, {Check.plus(BACK, 128), 4}, {Check.plus(29, 5), 4},
            {Check.plus(30, 0), 4}};
        for (int[] row : stopping) {
            TapeCalculator x = written(2);
            Check.due("STOP", Check.once(x, row[0]), row[1]);
            Check.dueTape("RECORD at STOP " + row[1], x, 0, 3, 0, WORD, RECORD);
            Check.due("nothing CHOSEN", x.told(9), 0);
        }
        TapeCalculator x = written(2);
        Check.program(x, 0, Twin.NOTHING, Check.plus(1, 2), Check.plus(9, 100));
        Check.due("ACTS that do not stop", x.run(3), 3);
        Check.dueTape("no RECORD", x, 0, 2, 0, WORD);
        Check.due("CHOSEN yet", x.told(9), 9);
    }

    /** The END OF RECORD goes to the tape that was written, not to that which is CHOSEN next. */
    private static void recordOfAnotherTape() {
        TapeCalculator x = written(1);
        x.lay(1, 5);
        Check.due("WRITE of tape 1", act(x, WRITE, 1), 0);
        Check.dueTape("tape 0", x, 0, 2, WORD, RECORD);
        Check.dueTape("tape 1", x, 1, 0);
        Check.due("CHOSEN", x.told(9), 10);
    }

    /** "none behind .. a STOP, WRITE END, REWIND". */
    private static void noneChosen() {
        int[] acts = {Twin.HALT, Check.plus(2, 512), Check.plus(18, 300), Check.plus(30, 0), Check.plus(REWIND, 256),
            Check.plus(REWIND, 258), Check.plus(WRITE_END, 256), Check.plus(WRITE_END, 258)};
        int[] choosing = {Check.plus(READ, 256), Check.plus(BACK, 256), Check.plus(WRITE, 256), Check.plus(READ, 128),
            Check.plus(WRITE, 128)};
        for (int bits : acts) {
            for (int first : choosing) {
                TapeCalculator x = new TapeCalculator();
                Check.once(x, first);
                Check.isTrue("CHOSEN by " + first, x.told(9) != 0);
                Check.once(x, bits);
                Check.due(bits + " behind " + first, x.told(9), 0);
            }
        }
    }

    /** Behind what is none of these it stays CHOSEN: other ACTS, and all that is done by hand. */
    private static void chosenYet() {
        for (int way = READ; way <= WRITE; way++) {
            TapeCalculator x = standing(2, 1);
            act(x, way, 0);
            long chosen = x.told(9);
            Check.program(x, 0, Twin.NOTHING, Check.plus(30, 65), Check.plus(9, 300), COPY_100);
            Check.due("ACTS", x.run(4), 4);
            Check.due("CHOSEN behind ACTS", x.told(9), chosen);
            x.run(0);
            x.set(5, 9);
            x.lay(0, 5);
            x.load();
            x.turn(1, true);
            Check.due("CHOSEN behind what is done by hand", x.told(9), chosen);
        }
    }

    /** "none behind an END that COPY met": the COPY behind that is STOP 6. */
    private static void endsLeaveNothingChosen() {
        for (long end : new long[] {RECORD, FILE}) {
            TapeCalculator x = new TapeCalculator();
            x.lay(0, end);
            x.lay(0, 9);
            act(x, READ, 0);
            copy(x);
            Check.due("END " + end, x.told(5), end == RECORD ? 3 : 2);
            Check.due("behind END " + end, x.stands(0), 1);
            Check.due("nothing CHOSEN", x.told(9), 0);
            Check.due("COPY again", copy(x), 6);
            Check.due("it stands", x.stands(0), 1);
            act(x, BACK, 0);
            copy(x);
            Check.due("END backward " + end, x.told(5), end == RECORD ? 3 : 2);
            Check.due("ahead of END " + end, x.stands(0), 0);
            Check.due("nothing CHOSEN then", x.told(9), 0);
            Check.due("COPY once more", copy(x), 6);
        }
    }

    /** "COPY with nothing CHOSEN: STOP 6". */
    private static void copyWithNothingChosen() {
        Twin.stopsOnly("COPY of a WHOLE", 6, Check.minus(COPY, 100), Twin::stopped);
        Twin.stopsOnly("COPY of a HALF", 6, Check.plus(COPY, 511), Twin::stopped);
        Twin.stopsOnly("COPY at first", 6, Check.plus(COPY, 0), Twin::fresh);
    }

    /** Forward and backward, with all bits and with none; to a HALF without the lowest 18. */
    private static void wordsComeAsTheyAre() {
        for (long word : new long[] {0, 1, 262143, 262144, Check.negative(0), Check.MOST_SIZE, Check.MOST_WORD}) {
            TapeCalculator x = new TapeCalculator();
            x.lay(0, word);
            Check.putWhole(x, 100, Check.MOST_WORD - word);
            Check.putWhole(x, 102, Check.MOST_WORD - word);
            act(x, READ, 0);
            copy(x);
            Check.due("forward " + word, x.whole(100), word);
            act(x, BACK, 0);
            Check.once(x, Check.minus(COPY, 103));
            Check.due("backward " + word, x.whole(102), word);
            act(x, READ, 0);
            Check.once(x, Check.plus(COPY, 105));
            Check.due("to a HALF " + word, x.half(105), word / 262144);
            Check.due("beside it " + word, x.half(104), 0);
            act(x, WRITE, 1);
            Check.once(x, Check.minus(COPY, 101));
            Check.once(x, Check.plus(COPY, 105));
            Check.dueTape("written " + word, x, 1, 2, word, word / 262144 * 262144);
        }
    }

    private static void rewindOfEachTape() {
        for (int tape = 0; tape < 4; tape++) {
            TapeCalculator x = new TapeCalculator();
            for (int t = 0; t < 4; t++) {
                x.lay(t, 5);
                act(x, READ, t);
                copy(x);
            }
            Check.due("REWIND", act(x, REWIND, tape), 0);
            for (int t = 0; t < 4; t++) {
                Check.dueTape("REWIND of " + tape + ": tape " + t, x, t, t == tape ? 0 : 1, 5);
            }
        }
    }

    /** "A TAPE is empty: how many ITEMS it had": 0, 1, 300, wherever it stands; the other tapes stay. */
    private static void blankOfEachState() {
        for (int count : new int[] {0, 1, 299, 300}) {
            TapeCalculator x = standing(count, count);
            x.lay(1, 8);
            Check.due("blank of " + count, x.blank(0), count);
            Check.dueTape("blank", x, 0, 0);
            Check.due("blank again", x.blank(0), 0);
            Check.dueTape("another tape", x, 1, 0, 8);
            Check.due("COPY of the first", act(x, WRITE, 0) + copy(x), 0);
            Check.dueTape("written then", x, 0, 1, WORD);
        }
        for (int way = READ; way <= WRITE; way++) {
            TapeCalculator x = standing(2, 1);
            act(x, way, 0);
            long chosen = x.told(9);
            x.blank(0);
            Check.due("it stays CHOSEN", x.told(9), chosen);
            Check.due("COPY then", copy(x), 0);
            Check.due("PLACE then", x.told(5), way == WRITE ? 1 : 2);
            Check.due("CHOSEN then", x.told(9), way == WRITE ? chosen : 0);
        }
    }

    /** "no word was written since, then": of that tape, and until the next one. */
    private static void blankAndWordsSince() {
        TapeCalculator x = written(2);
        Check.due("blank", x.blank(0), 2);
        Check.once(x, Twin.HALT);
        Check.dueTape("no RECORD at HALT", x, 0, 0);
        x = written(2);
        x.blank(0);
        act(x, WRITE_END, 0);
        Check.dueTape("FILE alone", x, 0, 1, FILE);
        x = written(2);
        x.blank(0);
        copy(x);
        Check.once(x, Twin.HALT);
        Check.dueTape("a word behind blank", x, 0, 2, WORD, RECORD);
        x = written(2);
        x.blank(1);
        Check.once(x, Twin.HALT);
        Check.dueTape("blank of another tape", x, 0, 3, 0, WORD, RECORD);
        x = written(300);
        x.blank(0);
        Check.due("READ behind blank of a full tape", act(x, READ, 0), 0);
    }
}
