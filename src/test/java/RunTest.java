/** Promises 8 to 10: run, step, acts; and THE PLACE and the STOPS. */
final class RunTest {
    public static void main(String[] args) {
        counts();
        stopIsForgotten();
        placeGoesRound();
        addressesAboveTheStore();
        placeStaysAtStops();
        Check.end();
    }

    private static void counts() {
        TapeCalculator x = new TapeCalculator();
        Check.program(x, 0, Check.plus(8, 0), Check.plus(8, 4095), Check.minus(8, 1), Check.plus(0, 100));
        Check.due("run(-1)", x.run(-1), Check.BAD);
        Check.due("run(20001)", x.run(20001), Check.BAD);
        Check.due("run(0)", x.run(0), 0);
        Check.due("acts at first", x.acts(), 0);
        Check.due("run(2)", x.run(2), 2);
        Check.due("place", x.told(5), 2);
        Check.due("run(9)", x.run(9), 2);
        Check.due("stop", x.told(8), 1);
        Check.due("place of HALT", x.told(5), 100);
        Check.due("acts", x.acts(), 4);
        Check.program(x, 200, Check.plus(1, 200));
        Check.due("run(20000)", x.run(20000), 20000);
        Check.due("no stop", x.told(8), 0);
        Check.due("acts then", x.acts(), 20004);
        Check.due("step", x.step(), 0);
        Check.due("acts with step", x.acts(), 20005);
        Check.program(x, 200, Check.plus(31, 0));
        Check.due("step that stops", x.step(), 6);
        Check.due("acts with a stop", x.acts(), 20006);
    }

    private static void stopIsForgotten() {
        TapeCalculator x = new TapeCalculator();
        Check.due("HALT", x.step(), 1);
        Check.due("told(8)", x.told(8), 1);
        Check.due("bad run", x.run(-5), Check.BAD);
        Check.due("told(8) behind a bad run", x.told(8), 1);
        x.run(0);
        Check.due("told(8) behind run(0)", x.told(8), 0);
        x.step();
        x.put(0, Check.plus(8, 0));
        Check.due("step on", x.step(), 0);
        Check.due("told(8) behind step", x.told(8), 0);
    }

    private static void placeGoesRound() {
        TapeCalculator x = new TapeCalculator();
        Check.program(x, 511, Check.plus(8, 0));
        x.step();
        Check.due("behind 511", x.told(5), 0);
        x.turn(1, true);
        Check.program(x, 511, Check.plus(30, 69));
        x.step();
        Check.due("behind 511 and one more", x.told(5), 1);
        x.lay(0, Check.RECORD);
        Check.program(x, 509, Check.plus(24, 256), Check.plus(31, 0));
        x.run(2);
        Check.due("behind 510 and two more", x.told(5), 1);
    }

    private static void addressesAboveTheStore() {
        for (int act = 0; act < 32; act++) {
            boolean wants = act <= 7 || act >= 9 && act <= 18 || act == 31;
            for (int sign = 0; sign < 2; sign++) {
                for (int address : new int[] {512, 513, 4095}) {
                    TapeCalculator x = new TapeCalculator();
                    x.set(4, 1);
                    int stop = Check.once(x, sign << 17 | Check.plus(act, address));
                    Check.due("act " + act + " of " + address + " is STOP 2", stop == 2 ? 1 : 0, wants ? 1 : 0);
                    if (wants) {
                        Check.due("place stays " + act, x.told(5), 0);
                        Check.dueRegisters("nothing else " + act, x, 0, 0, 0, 0, 1);
                    }
                }
            }
        }
    }

    private static void placeStaysAtStops() {
        int[][] stopping = {{Check.plus(9, 512), 2}, {Check.plus(18, 300), 3}, {Check.plus(24, 260), 4}, {Check.plus(31, 5), 6}};
        for (int[] row : stopping) {
            TapeCalculator x = new TapeCalculator();
            Check.program(x, 40, row[0]);
            Check.due("run to STOP " + row[1], x.run(7), 1);
            Check.due("told(8)", x.told(8), row[1]);
            Check.due("place", x.told(5), 40);
        }
    }
}
