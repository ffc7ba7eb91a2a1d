/** "Terms", OPERANDS, THE PLACE and STOP 2; promises 8 to 10: the first and the last ADDRESS and count. */
final class PlaceEdgesTest {
    private static final int NOTHING = Twin.NOTHING;

    public static void main(String[] args) {
        placeBehindEachAct();
        placeBehind511();
        passingOverBehind511();
        goingTo511();
        goingAbove511();
        notGoingAbove511();
        operandsOfHalvesAndWholes();
        operandsAt511();
        operandsAbove511();
        addressesThatAreNone();
        stopTwoComesFirst();
        leastAndMostRuns();
        runsEndAtTheCount();
        runsEndAtTheStop();
        latestStop();
        eachStopIsForgotten();
        stepsTellEachStop();
        actsCountAll();
        Check.end();
    }

    private static boolean wantsOperand(int act) {
        return act >= 5 && act <= 7 || act >= 9 && act <= 18 || act == 31;
    }

    /** An ADDRESS with which the ACT goes on and THE PLACE isn't told otherwise. */
    private static int plainAddress(int act) {
        if (act >= 24 && act <= 28) {
            return 257;
        }
        return act == 30 ? 64 : 300;
    }

    /** Registers with which none of IF OVER, IF PLUS, IF ZERO goes, and SHARE doesn't stop. */
    private static TapeCalculator going(int place, int act) {
        TapeCalculator x = new TapeCalculator();
        Check.putWhole(x, 300, 1L << 30);
        Check.once(x, Check.plus(24, 128));
        Check.registers(x, 1, 3, 0, 5, 0);
        Check.program(x, place, Check.plus(act, plainAddress(act)));
        return x;
    }

    /** "THE PLACE is one more behind each ACT". */
    private static void placeBehindEachAct() {
        for (int act = 2; act < 32; act++) {
            for (int place : new int[] {0, 255, 256, 510}) {
                TapeCalculator x = going(place, act);
                Check.due("act " + act + " goes on", x.step(), 0);
                Check.due("act " + act + " at " + place, x.told(5), place + 1);
                Check.due("act " + act + " counts", x.acts(), 2);
            }
        }
    }

    /** "(behind 511: 0)". */
    private static void placeBehind511() {
        for (int act = 2; act < 32; act++) {
            TapeCalculator x = going(511, act);
            Check.due("act " + act + " goes on", x.step(), 0);
            Check.due("act " + act + " at 511", x.told(5), 0);
        }
    }

    private static void passingOverBehind511() {
        for (int place = 507; place < 512; place++) {
            TapeCalculator x = new TapeCalculator();
            x.turn(3, true);
            Check.program(x, place, Check.plus(30, 71));
            x.step();
            Check.due("SWITCH at " + place, x.told(5), (place + 2) % 512);
            Check.once(x, Check.plus(30, 68));
            Check.program(x, place, Check.plus(30, 76));
            x.step();
            Check.due("LIGHT at " + place, x.told(5), (place + 2) % 512);
            passingEnd(place, Check.RECORD, 3);
            passingEnd(place, Check.FILE, 2);
            passingEnd(place, Check.NONE, 2);
        }
    }

    private static void passingEnd(int place, long end, int more) {
        TapeCalculator x = new TapeCalculator();
        if (end != Check.NONE) {
            x.lay(2, end);
        }
        Check.once(x, Check.plus(24, 258));
        Check.program(x, place, Check.minus(31, 100));
        Check.due("COPY goes on", x.step(), 0);
        Check.due("end " + end + " at " + place, x.told(5), (place + more) % 512);
    }

    /** THE ACTS 0 to 4, all of which go with OVER on and THE ACC plus 0. */
    private static int goTo(int bits) {
        TapeCalculator x = new TapeCalculator();
        x.set(4, 1);
        Check.program(x, 200, bits);
        Check.due("going by " + bits, x.step(), bits / 4096 % 32 == 0 ? 1 : 0);
        return (int) x.told(5);
    }

    private static void goingTo511() {
        for (int act = 0; act <= 4; act++) {
            for (int address : new int[] {0, 1, 200, 510, 511}) {
                Check.due("act " + act + " to " + address, goTo(Check.plus(act, address)), address);
                Check.due("act " + act + " with minus to " + address, goTo(Check.minus(act, address)), address);
            }
        }
    }

    private static TapeCalculator overAndZero() {
        TapeCalculator x = new TapeCalculator();
        Check.registers(x, 0, 0, 1, 9, 1);
        x.set(5, 200);
        return x;
    }

    private static TapeCalculator noneGoes() {
        TapeCalculator x = new TapeCalculator();
        Check.registers(x, 1, 1L << 36, 0, 9, 0);
        x.set(5, 511);
        return x;
    }

    /** "0 to 4 whose ADDRESS is above 511: STOP 2, nothing else": OVER stays on, too. */
    private static void goingAbove511() {
        for (int act = 0; act <= 4; act++) {
            for (int address : new int[] {512, 513, 1024, 2048, 4095}) {
                Twin.stopsOnly("act " + act + " to " + address, 2, Check.plus(act, address), PlaceEdgesTest::overAndZero);
                Twin.stopsOnly("act " + act + " with minus", 2, Check.minus(act, address), PlaceEdgesTest::overAndZero);
            }
        }
    }

    /** It is STOP 2 even if the ACT would not go. */
    private static void notGoingAbove511() {
        for (int act = 2; act <= 4; act++) {
            Twin.stopsOnly("act " + act + " that does not go", 2, Check.plus(act, 512), PlaceEdgesTest::noneGoes);
        }
    }

    /** "OPERANDS: with plus HALF ADDRESS, with minus WHOLE ADDRESS less its lowest bit", of each ACT that calculates. */
    private static void operandsOfHalvesAndWholes() {
        for (int act : new int[] {5, 6, 7, 9, 10, 11, 15, 16, 17, 18}) {
            for (int half : new int[] {1, 77, 131071, 131073, 262143}) {
                TapeCalculator due = calculated(Check.minus(act, 200), half, 0);
                String what = "act " + act + " of HALF " + half;
                dueAlike(what, calculated(Check.plus(act, 200), half, 262143), due);
                dueAlike(what + " at an odd ADDRESS", calculated(Check.plus(act, 203), 0, half), due);
                dueAlike(what + " as an odd WHOLE", calculated(Check.minus(act, 201), half, 0), due);
            }
        }
    }

    /** Done with two HALVES at 200 and the same two at 202, and registers that SHARE takes. */
    private static TapeCalculator calculated(int bits, int first, int second) {
        TapeCalculator x = new TapeCalculator();
        for (int n = 200; n < 204; n += 2) {
            x.put(n, first);
            x.put(n + 1, second);
        }
        Check.registers(x, 1, 99, 0, 3L << 33, 0);
        Check.due("it goes on", Check.once(x, bits), 0);
        return x;
    }

    private static void dueAlike(String what, TapeCalculator x, TapeCalculator due) {
        Check.dueRegisters(what, x, (int) due.told(0), due.told(1), (int) due.told(2), due.told(3), (int) due.told(4));
    }

    /** The last ADDRESS of an OPERAND: 511, with minus 510 and 511 (of WHOLE 510). */
    private static void operandsAt511() {
        for (int act = 5; act < 32; act++) {
            for (int address : new int[] {510, 511}) {
                if (wantsOperand(act)) {
                    operandIsTaken(act, Check.plus(act, address));
                    operandIsTaken(act, Check.minus(act, address));
                }
            }
        }
    }

    private static void operandIsTaken(int act, int bits) {
        TapeCalculator x = new TapeCalculator();
        Check.putWhole(x, 510, 5L << 18 | 5);
        Check.once(x, Check.plus(24, 128));
        Check.due("act " + act + " of " + bits % 4096, Check.once(x, bits), 0);
        Check.due("place behind act " + act, x.told(5), 1);
    }

    /** "ACTS that want one (5 to 7, 9 to 18, 31) whose ADDRESS (with minus: less its lowest bit) is above 511". */
    private static void operandsAbove511() {
        for (int act = 5; act < 32; act++) {
            for (int address : new int[] {512, 513, 1023, 1024, 4094, 4095}) {
                if (wantsOperand(act)) {
                    Twin.stopsOnly("act " + act + " of " + address, 2, Check.plus(act, address), Twin::stopped);
                    Twin.stopsOnly("act " + act + " with minus of " + address, 2, Check.minus(act, address), Twin::stopped);
                }
            }
        }
    }

    /** 8 and 19 to 23 want no OPERAND, 29 takes every ADDRESS: no STOP 2. */
    private static void addressesThatAreNone() {
        for (int act : new int[] {8, 19, 20, 21, 22, 23, 29}) {
            for (int address : new int[] {511, 512, 513, 4095}) {
                TapeCalculator x = new TapeCalculator();
                Check.once(x, Check.plus(24, 128));
                Check.due("act " + act + " of " + address, Check.once(x, Check.plus(act, address)), 0);
                Check.due("act " + act + " with minus", Check.once(x, Check.minus(act, address)), 0);
                Check.due("place", x.told(5), 1);
            }
        }
    }

    /** What else would stop, or meet an END, does not come to it. */
    private static void stopTwoComesFirst() {
        TapeCalculator x = new TapeCalculator();
        Check.due("COPY, nothing CHOSEN", Check.once(x, Check.plus(31, 512)), 2);
        Check.due("SHARE by nothing", Check.once(x, Check.plus(18, 512)), 2);
        x.lay(0, Check.RECORD);
        Check.once(x, Check.plus(24, 256));
        Check.due("COPY ahead of an END", Check.once(x, Check.minus(31, 512)), 2);
        Check.due("it stands", x.stands(0), 0);
        Check.due("PLACE stays", x.told(5), 0);
        Check.once(x, Check.plus(24, 128));
        Check.once(x, Check.plus(31, 512));
        Check.due("DRUM PLACE stays", x.told(7), 0);
    }

    /** "n ACTS (0 .. 20000)". */
    private static void leastAndMostRuns() {
        TapeCalculator x = new TapeCalculator();
        x.put(0, Check.plus(1, 0));
        Check.due("run(0)", x.run(0), 0);
        Check.due("none is done", x.acts(), 0);
        Check.due("run(1)", x.run(1), 1);
        Check.due("run(19999)", x.run(19999), 19999);
        Check.due("run(20000)", x.run(20000), 20000);
        Check.due("run(20001)", x.run(20001), Check.BAD);
        Check.due("run(-1)", x.run(-1), Check.BAD);
        Check.due("acts", x.acts(), 40000);
    }

    /** "Up to n ACTS are done": not one more; round behind 511, too. */
    private static void runsEndAtTheCount() {
        TapeCalculator x = new TapeCalculator();
        Check.program(x, 509, NOTHING, NOTHING, NOTHING);
        Check.due("run(3)", x.run(3), 3);
        Check.due("place", x.told(5), 0);
        Check.due("HALT at 0 is not done", x.told(8), 0);
        x.set(5, 509);
        Check.due("run(4)", x.run(4), 4);
        Check.due("HALT is the fourth", x.told(8), 1);
        x.set(5, 509);
        Check.due("run(5)", x.run(5), 4);
        Check.due("run(0) at HALT", x.run(0), 0);
        Check.due("acts", x.acts(), 11);
    }

    /** "or up to a STOP: how many (that which stops counts)". */
    private static void runsEndAtTheStop() {
        int[][] stopping = {{Twin.HALT, 1}, {Check.plus(1, 512), 2}, {Check.plus(18, 300), 3}, {Check.plus(30, 63), 4},
            {Check.plus(31, 5), 6}};
        for (int[] row : stopping) {
            TapeCalculator x = new TapeCalculator();
            Check.program(x, 40, row[0], NOTHING);
            Check.due("STOP as the first", x.run(20000), 1);
            Check.due("told(8)", x.told(8), row[1]);
            Check.program(x, 40, NOTHING, NOTHING, row[0]);
            Check.due("STOP as the third", x.run(20000), 3);
            Check.due("place", x.told(5), row[1] == 1 ? 0 : 42);
            Check.due("acts", x.acts(), 4);
        }
    }

    /** "8 the latest STOP (0: none since run() or step() was asked)". */
    private static void latestStop() {
        TapeCalculator x = new TapeCalculator();
        Check.due("STOP 6", Check.once(x, Check.plus(31, 5)), 6);
        x.set(5, 100);
        x.put(100, NOTHING);
        x.lay(0, 1);
        x.blank(0);
        x.load();
        Check.due("it stays", x.told(8), 6);
        Check.due("run(1)", x.run(1), 1);
        Check.due("none since run", x.told(8), 0);
        Check.due("STOP 4", Check.once(x, Check.plus(24, 0)), 4);
        Check.due("told STOP 4", x.told(8), 4);
        Check.due("step", Check.once(x, NOTHING), 0);
        Check.due("none since step", x.told(8), 0);
        Check.once(x, Twin.HALT);
        Check.due("run(0)", x.run(0), 0);
        Check.due("none since run(0)", x.told(8), 0);
    }

    /** Whichever it was, run() and step() go on behind it. */
    private static void eachStopIsForgotten() {
        int[][] stopping = {{Twin.HALT, 1}, {Check.plus(9, 512), 2}, {Check.plus(18, 300), 3}, {Check.plus(29, 0), 4},
            {Check.plus(31, 0), 5}, {Check.plus(31, 0), 6}};
        for (int[] row : stopping) {
            TapeCalculator x = new TapeCalculator();
            for (int i = 0; i < 300 && row[1] == 5; i++) {
                x.lay(0, i);
            }
            // STOP 5 is that of a COPY behind 300 ITEMS that were read.
            Check.program(x, 400, Check.plus(24, 256), Check.plus(31, 500), Check.plus(1, 401));
            x.run(row[1] == 5 ? 601 : 0);
            Check.once(x, Check.plus(row[1] == 5 ? 26 : 8, 256));
            Check.due("STOP " + row[1], Check.once(x, row[0]), row[1]);
            Check.program(x, 100, NOTHING, NOTHING);
            Check.due("run behind STOP " + row[1], x.run(2), 2);
            Check.due("none since run", x.told(8), 0);
            Check.due("STOP " + row[1] + " again, of nothing CHOSEN", Check.once(x, row[0]), row[1] == 5 ? 6 : row[1]);
            Check.due("step behind it", Check.once(x, NOTHING), 0);
            Check.due("none since step", x.told(8), 0);
        }
    }

    /** "One ACT: 0, or its STOP." */
    private static void stepsTellEachStop() {
        TapeCalculator x = new TapeCalculator();
        Check.due("0", Check.once(x, NOTHING), 0);
        Check.due("STOP 1", Check.once(x, Twin.HALT), 1);
        Check.due("STOP 2", Check.once(x, Check.plus(9, 512)), 2);
        Check.due("STOP 3", Check.once(x, Check.plus(18, 300)), 3);
        Check.due("STOP 4", Check.once(x, Check.plus(29, 0)), 4);
        Check.due("STOP 6", Check.once(x, Check.plus(31, 0)), 6);
        Check.due("one ACT each", x.acts(), 6);
    }

    /** "How many ACTS ever": far more than one run can do, and with every STOP. */
    private static void actsCountAll() {
        TapeCalculator x = new TapeCalculator();
        x.put(0, Check.plus(1, 0));
        for (int i = 0; i < 400; i++) {
            x.run(20000);
        }
        Check.due("acts", x.acts(), 8000000);
        x.run(20001);
        x.run(0);
        Check.due("acts, none more", x.acts(), 8000000);
        Check.once(x, Check.plus(31, 600));
        Check.due("acts, a STOP more", x.acts(), 8000001);
    }
}
