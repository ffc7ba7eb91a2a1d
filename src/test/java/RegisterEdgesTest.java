/** "Terms", THE ACC to THE PLACE; promises 5 to 7: the least and the most of each register. */
final class RegisterEdgesTest {
    private static final long[] MOST = {1, Check.MOST_ACC, 1, Check.MOST_SIZE, 1, 511};

    public static void main(String[] args) {
        mostAndOneMore();
        setChangesNoOther();
        everyBitOfSizes();
        setPlaceIsDoneNext();
        lights();
        drumPlaceAndStop();
        everyChoice();
        switchesAreFour();
        switchesOneByOne();
        Check.end();
    }

    /** "v not 0 .. the most that it can be". */
    private static void mostAndOneMore() {
        for (int what = 0; what < MOST.length; what++) {
            TapeCalculator x = new TapeCalculator();
            Check.due("most of " + what, x.set(what, MOST[what]), 1);
            Check.due("one more of " + what, x.set(what, MOST[what] + 1), Check.BAD);
            Check.due("it has the most " + what, x.told(what), MOST[what]);
            Check.due("least of " + what, x.set(what, 0), 1);
            Check.due("one less of " + what, x.set(what, -1), Check.BAD);
            Check.due("it has the least " + what, x.told(what), 0);
        }
    }

    private static void setChangesNoOther() {
        for (int what = 0; what < MOST.length; what++) {
            TapeCalculator x = new TapeCalculator();
            x.set(what, MOST[what]);
            for (int other = 0; other < 10; other++) {
                Check.due("told " + other + " behind set " + what, x.told(other), other == what ? MOST[what] : 0);
            }
        }
    }

    /** "THE ACC has a SIGN and a SIZE of 37 bits; THE MQ a SIGN and a SIZE of 35 bits". */
    private static void everyBitOfSizes() {
        TapeCalculator x = new TapeCalculator();
        for (int bit = 0; bit < 38; bit++) {
            Check.due("ACC bit " + bit, x.set(1, 1L << bit), bit < 37 ? 1 : Check.BAD);
            Check.due("ACC has bit " + bit, x.told(1), 1L << Math.min(bit, 36));
            Check.due("MQ bit " + bit, x.set(3, 1L << bit), bit < 35 ? 1 : Check.BAD);
            Check.due("MQ has bit " + bit, x.told(3), 1L << Math.min(bit, 34));
        }
    }

    /** "THE PLACE (0 .. 511) of the HALF that is done next". */
    private static void setPlaceIsDoneNext() {
        for (int place : new int[] {0, 1, 510, 511}) {
            TapeCalculator x = new TapeCalculator();
            x.put(place, Check.plus(30, 66));
            x.set(5, place);
            Check.due("step at " + place, x.step(), 0);
            Check.due("LIGHT 2 of " + place, x.told(6), 2);
        }
    }

    /** "6 LIGHTS (bit k - 1: LIGHT k)". */
    private static void lights() {
        for (int k = 1; k <= 4; k++) {
            TapeCalculator x = new TapeCalculator();
            Check.once(x, Check.plus(30, 64 + k));
            Check.due("LIGHT " + k, x.told(6), 1 << k - 1);
            Check.once(x, Check.plus(30, 64 + k));
            Check.due("LIGHT, again " + k, x.told(6), 1 << k - 1);
        }
    }

    private static void drumPlaceAndStop() {
        TapeCalculator x = new TapeCalculator();
        Check.once(x, Check.plus(24, 128));
        Check.once(x, Check.plus(29, 200));
        Check.due("DRUM PLACE", x.told(7), 200);
        Check.due("no STOP", x.told(8), 0);
        Check.once(x, Twin.HALT);
        Check.due("STOP 1", x.told(8), 1);
        Check.due("DRUM PLACE stays", x.told(7), 200);
    }

    /** "9 what is CHOSEN: 0 none; 1 to 4 .. 14". */
    private static void everyChoice() {
        TapeCalculator x = new TapeCalculator();
        Check.due("none", x.told(9), 0);
        for (int code = 1; code <= 12; code++) {
            Check.once(x, Check.plus(24 + (code - 1) / 4, 256 + (code - 1) % 4));
            Check.due("CHOSEN " + code, x.told(9), code);
        }
        Check.once(x, Check.plus(24, 128));
        Check.due("THE DRUM for READ", x.told(9), 13);
        Check.once(x, Check.plus(26, 128));
        Check.due("THE DRUM for WRITE", x.told(9), 14);
    }

    /** "A SWITCH (1 .. 4)". */
    private static void switchesAreFour() {
        TapeCalculator x = new TapeCalculator();
        Check.due("SWITCH 0", x.turn(0, true), Check.BAD);
        Check.due("SWITCH 1", x.turn(1, true), 0);
        Check.due("SWITCH 4", x.turn(4, true), 0);
        Check.due("SWITCH 5", x.turn(5, true), Check.BAD);
        Check.due("SWITCH 1 was on", x.turn(1, true), 1);
        Check.due("SWITCH 4 was on", x.turn(4, true), 1);
    }

    /** "1 if it was on, else 0": on, off, and twice the same; the others stay. */
    private static void switchesOneByOne() {
        for (int k = 1; k <= 4; k++) {
            TapeCalculator x = new TapeCalculator();
            Check.due("on " + k, x.turn(k, true), 0);
            for (int other = 1; other <= 4; other++) {
                Check.once(x, Check.plus(30, 68 + other));
                Check.due("SENSE " + other + ", on is " + k, x.told(5), other == k ? 2 : 1);
            }
            Check.due("on again " + k, x.turn(k, true), 1);
            Check.due("off " + k, x.turn(k, false), 1);
            Check.due("off again " + k, x.turn(k, false), 0);
            Check.due("on at last " + k, x.turn(k, true), 0);
        }
    }
}
