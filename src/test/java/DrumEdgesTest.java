/** "3 UNITS", THE DRUM; act 29 and promise 15: its first and last word, and round behind it. */
final class DrumEdgesTest {
    private static final int READ_DRUM = Check.plus(24, 128), WRITE_DRUM = Check.plus(26, 128), SET_DRUM = 29, COPY = 31;
    private static final long WORD = Check.negative(12345678901L);

    public static void main(String[] args) {
        everyAddress();
        setDrumWithoutIt();
        everyWord();
        roundBehindTheLast();
        placeStays();
        choosingIsNoRewind();
        chosenYet();
        wordsAndHalves();
        wrongWords();
        Check.end();
    }

    private static TapeCalculator chosen(int bits) {
        TapeCalculator x = new TapeCalculator();
        Check.putWhole(x, 100, WORD);
        Check.once(x, bits);
        return x;
    }

    /** "the DRUM PLACE is ADDRESS modulo 256". */
    private static void everyAddress() {
        for (int address = 0; address < 4096; address++) {
            TapeCalculator x = chosen(address % 2 == 0 ? READ_DRUM : WRITE_DRUM);
            Check.due("SET DRUM " + address, Check.once(x, Check.plus(SET_DRUM, address)), 0);
            Check.due("DRUM PLACE " + address, x.told(7), address % 256);
            Check.due("PLACE", x.told(5), 1);
            Check.due("with minus", Check.once(x, Check.minus(SET_DRUM, 4095 - address)), 0);
            Check.due("DRUM PLACE with minus", x.told(7), (4095 - address) % 256);
        }
    }

    /** "(THE DRUM has to be chosen: STOP 4)". */
    private static void setDrumWithoutIt() {
        for (int address : new int[] {0, 7, 128, 255, 256, 4095}) {
            Twin.stopsOnly("SET DRUM " + address, 4, Check.plus(SET_DRUM, address), Twin::stopped);
        }
        for (int act = 24; act <= 26; act++) {
            for (int tape = 0; tape < 4; tape++) {
                TapeCalculator x = chosen(Check.plus(act, 256 + tape));
                Check.due("SET DRUM with a tape", Check.once(x, Check.plus(SET_DRUM, 9)), 4);
                Check.due("DRUM PLACE", x.told(7), 0);
                Check.due("PLACE stays", x.told(5), 0);
                Check.due("nothing CHOSEN", x.told(9), 0);
            }
        }
    }

    /** "256 words": each is its own. */
    private static void everyWord() {
        for (int place = 0; place < 256; place++) {
            TapeCalculator x = chosen(WRITE_DRUM);
            Check.once(x, Check.plus(SET_DRUM, place));
            Check.once(x, Check.minus(COPY, 100));
            Check.due("word " + place, x.drum(place), WORD);
            Check.due("ahead of it", x.drum((place + 255) % 256), 0);
            Check.due("behind it", x.drum((place + 1) % 256), 0);
            Check.once(x, READ_DRUM);
            Check.once(x, Check.plus(SET_DRUM, place));
            Check.once(x, Check.minus(COPY, 200));
            Check.due("read " + place, x.whole(200), WORD);
            Check.due("it stays", x.drum(place), WORD);
        }
    }

    /** "the DRUM PLACE is one more, modulo 256". */
    private static void roundBehindTheLast() {
        for (int way : new int[] {READ_DRUM, WRITE_DRUM}) {
            TapeCalculator x = chosen(way);
            Check.once(x, Check.plus(SET_DRUM, 254));
            Check.once(x, Check.minus(COPY, 100));
            Check.due("behind 254", x.told(7), 255);
            Check.once(x, Check.minus(COPY, 100));
            Check.due("behind 255", x.told(7), 0);
            Check.once(x, Check.minus(COPY, 100));
            Check.due("behind 0", x.told(7), 1);
            Check.due("PLACE", x.told(5), 1);
            long due = way == WRITE_DRUM ? WORD : 0;
            Check.due("word 254", x.drum(254), due);
            Check.due("word 255", x.drum(255), due);
            Check.due("word 0", x.drum(0), due);
            Check.due("word 1", x.drum(1), 0);
        }
    }

    /** A COPY that stops does not move it. */
    private static void placeStays() {
        TapeCalculator x = chosen(WRITE_DRUM);
        Check.once(x, Check.plus(SET_DRUM, 255));
        Check.due("STOP 2", Check.once(x, Check.plus(COPY, 512)), 2);
        Check.due("DRUM PLACE", x.told(7), 255);
        Check.due("the word", x.drum(255), 0);
        Check.due("STOP 6", Check.once(x, Check.minus(COPY, 100)), 6);
        Check.due("DRUM PLACE yet", x.told(7), 255);
    }

    private static void choosingIsNoRewind() {
        TapeCalculator x = chosen(WRITE_DRUM);
        Check.once(x, Check.plus(SET_DRUM, 200));
        Check.once(x, Check.minus(COPY, 100));
        Check.once(x, Check.plus(28, 256));
        Check.once(x, READ_DRUM);
        Check.due("DRUM PLACE", x.told(7), 201);
        Check.once(x, WRITE_DRUM);
        Check.due("DRUM PLACE yet", x.told(7), 201);
        Check.due("WRITE takes no word away", x.drum(200), WORD);
    }

    /** THE DRUM has no END: it stays CHOSEN however often it is copied, and no tape gets an END OF RECORD. */
    private static void chosenYet() {
        for (int way : new int[] {READ_DRUM, WRITE_DRUM}) {
            TapeCalculator x = chosen(way);
            Check.program(x, 10, Check.minus(COPY, 100), Check.plus(1, 10));
            Check.due("600 COPIES", x.run(1200), 1200);
            Check.due("CHOSEN", x.told(9), way == READ_DRUM ? 13 : 14);
            Check.due("DRUM PLACE", x.told(7), 600 % 256);
            Check.once(x, Twin.HALT);
            for (int tape = 0; tape < 4; tape++) {
                Check.dueTape("tape " + tape, x, tape, 0);
            }
        }
    }

    private static void wordsAndHalves() {
        TapeCalculator x = chosen(WRITE_DRUM);
        x.put(300, 131073);
        x.put(301, 262143);
        Check.once(x, Check.plus(COPY, 300));
        Check.due("HALF as a WHOLE", x.drum(0), 131073L << 18);
        Check.once(x, Check.minus(COPY, 301));
        Check.due("WHOLE", x.drum(1), (131073L << 18) + 262143);
        Check.once(x, READ_DRUM);
        Check.once(x, Check.plus(SET_DRUM, 1));
        Check.once(x, Check.plus(COPY, 303));
        Check.due("to a HALF", x.half(303), 131073);
        Check.due("beside it", x.half(302), 0);
    }

    /** "A word of THE DRUM. BAD." */
    private static void wrongWords() {
        TapeCalculator x = new TapeCalculator();
        Check.due("drum(-1)", x.drum(-1), Check.BAD);
        Check.due("drum(0)", x.drum(0), 0);
        Check.due("drum(255)", x.drum(255), 0);
        Check.due("drum(256)", x.drum(256), Check.BAD);
    }
}
