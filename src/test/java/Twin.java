/** Two objects made alike: what a call changed in one of them is seen by asking both. */
final class Twin {
    interface Maker {
        TapeCalculator make();
    }

    interface Call {
        long on(TapeCalculator x);
    }

    static final int NOTHING = Check.plus(8, 0), HALT = 0;

    private Twin() {
    }

    /** A new object. */
    static TapeCalculator fresh() {
        return new TapeCalculator();
    }

    /** Nothing in it is as at first; tape 1 is CHOSEN for WRITE, and a word was written since. */
    static TapeCalculator writing() {
        TapeCalculator x = used();
        x.put(301, Check.plus(26, 257));
        x.put(302, Check.minus(31, 100));
        x.run(2);
        return x;
    }

    /** As far gone, with nothing CHOSEN and STOP 4 as the latest one. */
    static TapeCalculator stopped() {
        TapeCalculator x = used();
        x.put(301, Check.plus(30, 0));
        x.step();
        return x;
    }

    private static TapeCalculator used() {
        TapeCalculator x = new TapeCalculator();
        Check.putWhole(x, 100, Check.negative(12345678901L));
        x.put(0, 262143);
        x.put(511, 131072);
        x.lay(0, 5);
        x.lay(0, Check.RECORD);
        x.lay(1, 6);
        x.lay(3, Check.FILE);
        x.turn(2, true);
        x.turn(4, true);
        Check.program(x, 295, Check.plus(26, 128), Check.plus(29, 7), Check.minus(31, 100), Check.plus(30, 65),
            Check.plus(30, 67), NOTHING);
        x.run(6);
        Check.registers(x, 1, Check.MOST_ACC - 5, 1, Check.MOST_SIZE - 9, 1);
        Check.feedText(x, "7 =-131071");
        return x;
    }

    /** The call gives this answer, and behind it all is as if it had not been made. */
    static void unchanged(String call, long answer, Maker maker, Call asked) {
        TapeCalculator x = maker.make();
        Check.due(call, asked.on(x), answer);
        alike(call + " changes nothing", x, maker.make());
    }

    static void unchanged(String call, long answer, Call asked) {
        unchanged(call, answer, Twin::fresh, asked);
        unchanged(call, answer, Twin::writing, asked);
        unchanged(call, answer, Twin::stopped, asked);
    }

    /** Asks both for all that can be asked; they are used up then. */
    static void alike(String what, TapeCalculator x, TapeCalculator twin) {
        both(what + ": digest", x, twin, TapeCalculator::digest);
        both(what + ": acts", x, twin, TapeCalculator::acts);
        for (int k = 1; k <= 4; k++) {
            int number = k;
            both(what + ": SWITCH " + k, x, twin, o -> o.turn(number, false));
        }
        both(what + ": bytes of the text", x, twin, o -> o.feed(10, 1));
        both(what + ": load", x, twin, TapeCalculator::load);
        both(what + ": digest behind load", x, twin, TapeCalculator::digest);
        both(what + ": HALT", x, twin, o -> halted(o));
        both(what + ": digest behind HALT", x, twin, TapeCalculator::digest);
    }

    /** HALT shows by an END OF RECORD whether a word was written since. */
    private static long halted(TapeCalculator x) {
        x.put((int) x.told(5), HALT);
        return x.step();
    }

    private static void both(String what, TapeCalculator x, TapeCalculator twin, Call asked) {
        Check.due(what, asked.on(x), asked.on(twin));
    }

    /** The ACT stops so, THE PLACE stays, and nothing else is changed. The maker leaves nothing CHOSEN. */
    static void stopsOnly(String what, int stop, int bits, Maker maker) {
        TapeCalculator x = maker.make();
        TapeCalculator twin = maker.make();
        int place = (int) x.told(5);
        long acts = x.acts();
        x.put(place, bits);
        Check.due(what + ": STOP", x.step(), stop);
        Check.due(what + ": told(8)", x.told(8), stop);
        Check.due(what + ": PLACE stays", x.told(5), place);
        Check.due(what + ": it counts", x.acts(), acts + 1);
        twin.put(place, NOTHING);
        twin.step();
        twin.set(5, place);
        forgetStop(x);
        forgetStop(twin);
        alike(what + ": nothing else", x, twin);
    }

    static void forgetStop(TapeCalculator x) {
        x.put((int) x.told(5), NOTHING);
        x.step();
    }
}
