import java.math.BigInteger;
import java.util.Random;

/** Random acts and calls, of a fixed seed, on the class and on the Model: all that can be seen is alike. */
final class ModelTest {
    private static final int[] UNIT_ADDRESSES = {128, 256, 256, 256, 257, 258, 259, 260, 127, 0};

    private final Random random;
    private final TapeCalculator x = new TapeCalculator();
    private final Model model = new Model();
    private final String name;

    private ModelTest(long seed) {
        random = new Random(seed);
        name = "seed " + seed + ": ";
    }

    /** So many acts and runs that each object stays within its 512 calls. */
    public static void main(String[] args) {
        for (long seed = 1; seed <= 1000; seed++) {
            new ModelTest(seed).actsOneByOne(80);
            new ModelTest(seed).actsOnAFullTape(30);
            new ModelTest(seed).programs(50);
        }
        for (long seed = 1; seed <= 400; seed++) {
            new ModelTest(seed).wrongAndRight(160);
        }
        Check.end();
    }

    private void actsOneByOne(int steps) {
        for (int i = 0; i < steps; i++) {
            hand();
            Check.due(name + "place " + i, x.told(5), model.place);
            int bits = anyAct();
            setHalf(model.place, bits);
            Check.due(name + "step " + i + " of act " + bits / 4096 % 32, x.step(), model.step());
            Check.due(name + "digest " + i + " behind act " + bits / 4096 % 32, x.digest(), model.digest());
        }
        Check.due(name + "acts", x.acts(), model.acts);
    }

    private void actsOnAFullTape(int steps) {
        nearlyFull();
        actsOneByOne(steps);
    }

    private void programs(int runs) {
        for (int n = 0; n < 256; n++) {
            setHalf(n, random.nextInt(3) == 0 ? random.nextInt(262144) : anyAct());
        }
        for (int i = 0; i < runs; i++) {
            hand();
            int n = random.nextInt(300);
            Check.due(name + "run " + i, x.run(n), runModel(n));
            Check.due(name + "digest of run " + i, x.digest(), model.digest());
            if (model.stop != 0) {
                setRegister(5, random.nextInt(256));
            }
        }
        Check.due(name + "acts", x.acts(), model.acts);
    }

    private int runModel(int n) {
        int done = 0;
        model.stop = 0;
        while (done < n && model.stop == 0) {
            model.step();
            done++;
        }
        return done;
    }

    /** A tape that is nearly full, and stands near its end, or ahead of it. */
    private void nearlyFull() {
        int tape = random.nextInt(4);
        int count = 295 + random.nextInt(6);
        for (int i = 0; i < count; i++) {
            layOn(tape, i >= 295 && random.nextInt(3) == 0 ? -2 - random.nextInt(2) : anyWord());
        }
        setHalf(0, Check.plus(24, 256 + tape));
        setHalf(1, Check.minus(31, 100));
        setHalf(2, Check.plus(1, 1));
        int passed = random.nextInt(4) == 0 ? random.nextInt(295) : 290 + random.nextInt(count - 289);
        Check.due(name + "read", x.run(1 + 2 * passed), runModel(1 + 2 * passed));
        setHalf(model.place, Check.plus(26, 256 + tape));
        Check.due(name + "step", x.step(), model.step());
    }

    private void layOn(int tape, long v) {
        model.tapes.get(tape).add(v);
        Check.due(name + "lay", x.lay(tape, v), model.tapes.get(tape).size());
    }

    private int anyAct() {
        int sign = random.nextInt(2) << 17;
        int act = random.nextInt(4) == 0 ? 24 + random.nextInt(8) : random.nextInt(32);
        if (random.nextInt(4) == 0) {
            act = 31;
        }
        int address = random.nextInt(20) == 0 ? random.nextInt(4096) : random.nextInt(512);
        if (act >= 24 && act <= 28) {
            address = UNIT_ADDRESSES[random.nextInt(UNIT_ADDRESSES.length)];
        } else if (act == 30) {
            address = 63 + random.nextInt(15);
        }
        return sign | act << 12 | address;
    }

    private long anyWord() {
        long word = random.nextLong() & Check.MOST_WORD;
        switch (random.nextInt(5)) {
            case 0: return word & 1L << 35;
            case 1: return word | Check.MOST_SIZE;
            case 2: return word & (1L << 35 | 15);
            default: return word;
        }
    }

    private void setHalf(int n, int bits) {
        x.put(n, bits);
        model.halves[n] = bits;
    }

    private void setRegister(int what, long v) {
        Check.due(name + "set " + what, x.set(what, v), 1);
        switch (what) {
            case 0: model.accMinus = v == 1; break;
            case 1: model.acc = BigInteger.valueOf(v); break;
            case 2: model.mqMinus = v == 1; break;
            case 3: model.mq = BigInteger.valueOf(v); break;
            case 4: model.over = v == 1; break;
            default: model.place = (int) v; break;
        }
    }

    /** Now and then something is changed by hand. */
    private void hand() {
        int tape = random.nextInt(4);
        switch (random.nextInt(30)) {
            case 0: setRegister(1, anyWord() << random.nextInt(2) & Check.MOST_ACC); break;
            case 1: setRegister(3, anyWord() & Check.MOST_SIZE); break;
            case 2: setRegister(random.nextInt(3) * 2, random.nextInt(2)); break;
            case 3: setRegister(1, random.nextInt(4)); break;
            case 4: setRegister(5, random.nextInt(512)); break;
            case 5: case 6: case 7: layItem(tape); break;
            case 8:
                if (random.nextInt(5) == 0) {
                    Check.due(name + "blank", x.blank(tape), model.blank(tape));
                }
                break;
            case 9: turnSwitch(1 + random.nextInt(4)); break;
            case 10: case 11: setHalf(random.nextInt(512), (int) (anyWord() >> 18)); break;
            default: break;
        }
    }

    private void layItem(int tape) {
        long v = random.nextInt(3) == 0 ? -2 - random.nextInt(2) : anyWord();
        if (model.tapes.get(tape).size() == 300) {
            Check.due(name + "lay", x.lay(tape, v), Check.FULL);
        } else {
            layOn(tape, v);
        }
    }

    private void turnSwitch(int k) {
        boolean on = random.nextBoolean();
        Check.due(name + "turn", x.turn(k, on), model.switches[k] ? 1 : 0);
        model.switches[k] = on;
    }

    /** Any arguments: nothing is thrown, and what is BAD changes nothing. */
    private void wrongAndRight(int calls) {
        for (int i = 0; i < calls; i++) {
            long before = x.digest();
            int a = anyInt();
            int b = anyInt();
            long v = random.nextBoolean() ? anyInt() : random.nextLong() >> random.nextInt(64);
            int which = random.nextInt(18);
            long answer = call(which, a, b, v);
            boolean asks = which == 0 || which == 2 || which == 3 || which == 16;
            if (asks || answer == Check.BAD || answer == Check.FULL) {
                Check.due(name + "call " + which + " changes nothing", x.digest(), before);
            }
        }
    }

    private int anyInt() {
        switch (random.nextInt(4)) {
            case 0: return random.nextInt();
            case 1: return random.nextInt(12) - 2;
            case 2: return random.nextInt(600) - 10;
            default: return random.nextBoolean() ? Integer.MIN_VALUE : Integer.MAX_VALUE;
        }
    }

    private long call(int which, int a, int b, long v) {
        switch (which) {
            case 0: return x.half(a);
            case 1: return x.put(a, b);
            case 2: return x.whole(a);
            case 3: return x.told(a);
            case 4: return x.set(a, v);
            case 5: return x.turn(a, b > 0);
            case 6: return x.run(a);
            case 7: return x.step();
            case 8: return x.acts();
            case 9: return x.item(a, b);
            case 10: return x.lay(a, v);
            case 11: return x.stands(a);
            case 12: return x.blank(a);
            case 13: return x.drum(a);
            case 14: return x.feed(v, a);
            case 15: return x.load();
            case 16: return x.written(a, b);
            default: return x.digest();
        }
    }
}
