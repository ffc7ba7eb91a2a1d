import java.math.BigInteger;
import java.util.ArrayList;
import java.util.List;

/** A second calculator, written plainly from the document with other means: BigIntegers, lists, step by step. */
final class Model {
    final int[] halves = new int[512];
    BigInteger acc = BigInteger.ZERO, mq = BigInteger.ZERO;
    boolean accMinus, mqMinus, over;
    int place, drumPlace, stop;
    long acts;
    final boolean[] lights = new boolean[5], switches = new boolean[5];
    final List<List<Long>> tapes = List.of(new ArrayList<>(), new ArrayList<>(), new ArrayList<>(), new ArrayList<>());
    final int[] stands = new int[4];
    final long[] drum = new long[256];
    String unit = "none";
    char way = ' ';
    boolean wordSince;

    private static BigInteger two(int power) {
        return BigInteger.TWO.pow(power);
    }

    int step() {
        int bits = halves[place];
        boolean minus = bits >= 131072;
        int act = bits / 4096 % 32;
        int address = bits % 4096;
        int here = place;
        stop = 0;
        acts++;
        place = place + 1;
        List<Integer> wanting = List.of(0, 1, 2, 3, 4, 5, 6, 7, 9, 10, 11, 12, 13, 14, 15, 16, 17, 18, 31);
        if (wanting.contains(act) && address > 511) {
            stop = 2;
        } else {
            perform(act, minus, address);
        }
        place %= 512;
        if (stop >= 2) {
            place = here;
        }
        if (stop != 0) {
            endWritten();
            unit = "none";
        }
        return stop;
    }

    private void perform(int act, boolean minus, int address) {
        int n = address % 64;
        switch (act) {
            case 0 -> { stop = 1; place = address; }
            case 1 -> place = address;
            case 2 -> { if (over) { over = false; place = address; } }
            case 3 -> { if (!accMinus) place = address; }
            case 4 -> { if (acc.signum() == 0) place = address; }
            case 8 -> { }
            case 19 -> round();
            case 20 -> { for (int i = 0; i < n; i++) leftOnce(true); accMinus = mqMinus; }
            case 21 -> { for (int i = 0; i < n; i++) rightOnce(true); mqMinus = accMinus; }
            case 22 -> { for (int i = 0; i < n; i++) leftOnce(false); }
            case 23 -> { for (int i = 0; i < n; i++) rightOnce(false); }
            case 24, 25, 26, 27, 28 -> choose(act, address);
            case 29 -> { if (unit.equals("drum")) drumPlace = address % 256; else stop = 4; }
            case 30 -> sense(address);
            case 31 -> copy(minus, address);
            default -> calculate(act, minus, address);
        }
    }

    private long operand(boolean minus, int address) {
        int even = address - address % 2;
        return minus ? halves[even] * 262144L + halves[even + 1] : halves[address] * 262144L;
    }

    private void keep(boolean minus, int address, long word) {
        int even = address - address % 2;
        if (minus) {
            halves[even] = (int) (word / 262144);
            halves[even + 1] = (int) (word % 262144);
        } else {
            halves[address] = (int) (word / 262144);
        }
    }

    private static long word(boolean minus, BigInteger size) {
        return size.mod(two(35)).add(minus ? two(35) : BigInteger.ZERO).longValueExact();
    }

    private void calculate(int act, boolean minus, int address) {
        BigInteger w = BigInteger.valueOf(operand(minus, address));
        boolean sign = w.testBit(35);
        BigInteger size = w.mod(two(35));
        switch (act) {
            case 9 -> add(sign, size);
            case 5 -> add(!sign, size);
            case 11 -> add(false, size);
            case 7 -> add(true, size);
            case 10 -> { acc = size; accMinus = sign; }
            case 6 -> { acc = size; accMinus = !sign; }
            case 12 -> keep(minus, address, word(accMinus, acc));
            case 14 -> keep(minus, address, word(mqMinus, mq));
            case 15 -> { mq = size; mqMinus = sign; }
            case 13 -> storePart(minus, address);
            case 16, 17 -> {
                BigInteger product = mq.multiply(size);
                acc = product.shiftRight(35);
                mq = product.mod(two(35));
                accMinus = mqMinus != sign;
                mqMinus = accMinus;
                if (act == 17) round();
            }
            case 18 -> {
                if (size.compareTo(acc) <= 0) { stop = 3; return; }
                BigInteger[] parts = acc.shiftLeft(35).add(mq).divideAndRemainder(size);
                mq = parts[0];
                acc = parts[1];
                mqMinus = accMinus != sign;
            }
            default -> throw new IllegalStateException("act " + act);
        }
    }

    private void storePart(boolean minus, int address) {
        long a = word(accMinus, acc);
        if (minus) {
            keep(true, address, operand(true, address) & a);
        } else {
            halves[address] = halves[address] / 4096 * 4096 + (int) (a / 262144 % 4096);
        }
    }

    private void add(boolean sign, BigInteger size) {
        if (sign == accMinus) {
            over |= acc.mod(two(35)).add(size).compareTo(two(35)) >= 0;
            acc = acc.add(size).mod(two(37));
        } else {
            boolean greater = size.compareTo(acc) > 0;
            acc = acc.subtract(size).abs();
            accMinus = greater ? sign : accMinus;
        }
    }

    private void round() {
        if (mq.testBit(34)) {
            add(accMinus, BigInteger.ONE);
        }
    }

    private void leftOnce(boolean both) {
        boolean from = both && mq.testBit(34);
        acc = acc.shiftLeft(1).mod(two(37)).add(from ? BigInteger.ONE : BigInteger.ZERO);
        over |= acc.testBit(35);
        if (both) {
            mq = mq.shiftLeft(1).mod(two(35));
        }
    }

    private void rightOnce(boolean both) {
        if (both) {
            mq = mq.shiftRight(1).add(acc.testBit(0) ? two(34) : BigInteger.ZERO);
        }
        acc = acc.shiftRight(1);
    }

    private void sense(int address) {
        if (address == 64) {
            java.util.Arrays.fill(lights, false);
        } else if (address >= 65 && address <= 68) {
            lights[address - 64] = true;
        } else if (address >= 69 && address <= 72) {
            place += switches[address - 68] ? 1 : 0;
        } else if (address >= 73 && address <= 76) {
            place += lights[address - 72] ? 1 : 0;
            lights[address - 72] = false;
        } else {
            stop = 4;
        }
    }

    private boolean putItem(int tape, long v) {
        if (tapes.get(tape).size() == 300) {
            return false;
        }
        tapes.get(tape).add(stands[tape]++, v);
        return true;
    }

    private boolean isTape() {
        return unit.startsWith("tape");
    }

    private int chosenTape() {
        return unit.charAt(4) - '0';
    }

    private boolean endWritten() {
        boolean due = isTape() && way == 'W' && wordSince;
        wordSince = false;
        return !due || putItem(chosenTape(), -2);
    }

    private void cut(int tape) {
        List<Long> items = tapes.get(tape);
        items.subList(stands[tape], items.size()).clear();
    }

    private void choose(int act, int address) {
        boolean ofDrum = address == 128 && (act == 24 || act == 26);
        int tape = address - 256;
        if (!ofDrum && (tape < 0 || tape > 3)) {
            stop = 4;
            return;
        }
        if (!endWritten()) {
            stop = 5;
            return;
        }
        way = "RBWER".charAt(act - 24);
        unit = ofDrum ? "drum" : "tape" + tape;
        if (ofDrum) {
            return;
        }
        if (act == 26 || act == 27) {
            cut(tape);
        }
        if (act == 27) {
            unit = "none";
            stop = putItem(tape, -3) ? 0 : 5;
        }
        if (act == 28) {
            unit = "none";
            stands[tape] = 0;
        }
    }

    private void copy(boolean minus, int address) {
        if (unit.equals("none")) {
            stop = 6;
        } else if (unit.equals("drum")) {
            if (way == 'R') {
                keep(minus, address, drum[drumPlace]);
            } else {
                drum[drumPlace] = operand(minus, address);
            }
            drumPlace = (drumPlace + 1) % 256;
        } else if (way == 'W') {
            if (putItem(chosenTape(), operand(minus, address))) {
                wordSince = true;
            } else {
                stop = 5;
            }
        } else {
            copyFromTape(minus, address, chosenTape());
        }
    }

    private void copyFromTape(boolean minus, int address, int tape) {
        int at = way == 'R' ? stands[tape] : stands[tape] - 1;
        boolean nothing = at < 0 || at >= tapes.get(tape).size();
        long met = nothing ? -3 : tapes.get(tape).get(at);
        if (!nothing) {
            stands[tape] += way == 'R' ? 1 : -1;
        }
        if (met >= 0) {
            keep(minus, address, met);
        } else {
            unit = "none";
            place += met == -2 ? 2 : 1;
        }
    }

    int blank(int tape) {
        int had = tapes.get(tape).size();
        tapes.get(tape).clear();
        stands[tape] = 0;
        if (isTape() && chosenTape() == tape) {
            wordSince = false;
        }
        return had;
    }

    long told(int what) {
        int lit = 0;
        for (int k = 1; k <= 4; k++) {
            lit += lights[k] ? 1 << k - 1 : 0;
        }
        return switch (what) {
            case 0 -> accMinus ? 1 : 0;
            case 1 -> acc.longValueExact();
            case 2 -> mqMinus ? 1 : 0;
            case 3 -> mq.longValueExact();
            case 4 -> over ? 1 : 0;
            case 5 -> place;
            case 6 -> lit;
            case 7 -> drumPlace;
            case 8 -> stop;
            case 9 -> chosenCode();
            default -> -1;
        };
    }

    private int chosenCode() {
        if (unit.equals("none")) {
            return 0;
        }
        if (unit.equals("drum")) {
            return way == 'R' ? 13 : 14;
        }
        return 1 + chosenTape() + 4 * "RBW".indexOf(way);
    }

    long digest() {
        List<Long> all = new ArrayList<>();
        for (int half : halves) {
            all.add((long) half);
        }
        for (int what = 0; what < 10; what++) {
            all.add(told(what));
        }
        for (int tape = 0; tape < 4; tape++) {
            all.add((long) tapes.get(tape).size());
            all.add((long) stands[tape]);
            all.addAll(tapes.get(tape));
        }
        for (long w : drum) {
            all.add(w);
        }
        long h = 17;
        for (long v : all) {
            h = 31 * h + v;
        }
        return h;
    }
}
