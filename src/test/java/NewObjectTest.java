/** Promise 1: a new object. */
final class NewObjectTest {
    public static void main(String[] args) {
        halves();
        registersAndUnits();
        twoObjectsAreApart();
        Check.end();
    }

    /** An object has 512 calls: these are all of them. */
    private static void halves() {
        TapeCalculator x = new TapeCalculator();
        for (int n = 0; n < 512; n++) {
            Check.due("half " + n, x.half(n), 0);
        }
    }

    private static void registersAndUnits() {
        TapeCalculator x = new TapeCalculator();
        for (int what = 0; what < 10; what++) {
            Check.due("told " + what, x.told(what), 0);
        }
        for (int k = 1; k <= 4; k++) {
            Check.due("turn " + k, x.turn(k, false), 0);
        }
        for (int tape = 0; tape < 4; tape++) {
            Check.dueTape("tape " + tape, x, tape, 0);
            Check.due("blank " + tape, x.blank(tape), 0);
        }
        for (int i = 0; i < 256; i++) {
            Check.due("drum " + i, x.drum(i), 0);
        }
        Check.due("acts", x.acts(), 0);
        Check.due("load", x.load(), 0);
    }

    private static void twoObjectsAreApart() {
        TapeCalculator one = new TapeCalculator();
        TapeCalculator other = new TapeCalculator();
        one.put(3, 7);
        one.lay(0, 9);
        one.turn(1, true);
        one.feed(48, 1);
        Check.due("other half", other.half(3), 0);
        Check.due("other tape", other.item(0, 0), Check.NONE);
        Check.due("other switch", other.turn(1, false), 0);
        Check.due("other text", other.load(), 0);
    }
}
