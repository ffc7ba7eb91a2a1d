import java.util.ArrayList;
import java.util.List;
import java.util.Set;
import java.util.TreeSet;

/** Each ACT and each call by hand changes what it is told to change, and nothing else. */
final class AloneTest {
    private static final String ACC = "ACC SIZE", ACC_SIGN = "ACC SIGN", MQ = "MQ SIZE", MQ_SIGN = "MQ SIGN";

    public static void main(String[] args) {
        for (Twin.Maker state : statesWithRegisters()) {
            jumps(state);
            sums(state);
            loadsAndStores(state);
            productsAndQuotients(state);
            shifts(state);
            senses(state);
            stops(state);
        }
        unitActs();
        copiesOfTapes();
        copiesOfTheDrum();
        for (Twin.Maker state : states()) {
            storeByHand(state);
            registersByHand(state);
            tapesByHand(state);
            textByHand(state);
            runOfNone(state);
        }
        blanks();
        Check.end();
    }

    /** Behind Twin.stopped(), with one ACT of choice done. */
    private static TapeCalculator chosen(int bits) {
        TapeCalculator x = Twin.stopped();
        x.put((int) x.told(5), bits);
        x.step();
        return x;
    }

    private static TapeCalculator reading() {
        return chosen(Check.plus(24, 256));
    }

    private static TapeCalculator readingBack() {
        return chosen(Check.plus(25, 257));
    }

    /** CHOSEN for WRITE, and no word was written since. */
    private static TapeCalculator writingNone() {
        return chosen(Check.plus(26, 257));
    }

    private static TapeCalculator readingDrum() {
        return chosen(Check.plus(24, 128));
    }

    private static TapeCalculator writingDrum() {
        return chosen(Check.plus(26, 128));
    }

    private static Twin.Maker[] states() {
        return new Twin.Maker[] {Twin::fresh, Twin::writing, Twin::stopped, AloneTest::reading, AloneTest::readingBack,
            AloneTest::writingNone, AloneTest::readingDrum, AloneTest::writingDrum};
    }

    /** In each state each two of both SIGNS and OVER together, with OPERANDS that THE ACC is below. */
    private static List<Twin.Maker> statesWithRegisters() {
        List<Twin.Maker> all = new ArrayList<>();
        for (Twin.Maker state : states()) {
            for (int signs : new int[] {0, 3, 5, 6}) {
                all.add(() -> {
                    TapeCalculator x = state.make();
                    Check.registers(x, signs & 1, 5, signs >> 1 & 1, 9L << 30, signs >> 2);
                    Check.putWhole(x, 100, 12345678901L);
                    Check.putWhole(x, 102, Check.negative(23456789012L));
                    return x;
                });
            }
        }
        return all;
    }

    /** An ACT that goes on: THE PLACE may change besides. */
    private static void only(String what, Twin.Maker state, int bits, String... may) {
        only(what, 0, state, bits, with(may, "PLACE"));
    }

    /** The ACT is done at THE PLACE; how many were done and the latest STOP may change besides. */
    private static void only(String what, int stop, Twin.Maker state, int bits, String... may) {
        Twin.Maker before = () -> {
            TapeCalculator x = state.make();
            x.put((int) x.told(5), bits);
            return x;
        };
        Twin.Maker behind = () -> {
            TapeCalculator x = before.make();
            Check.due(what + " is done", x.step(), stop);
            return x;
        };
        Set<String> changed = Seen.of(before).differences(Seen.of(behind));
        changed.removeAll(List.of("ACTS", "STOP"));
        changed.removeAll(List.of(may));
        Check.isTrue(what + " changes nothing else, but it did: " + changed, changed.isEmpty());
    }

    private static void jumps(Twin.Maker state) {
        only("GO", state, Check.plus(1, 400));
        only("IF OVER", state, Check.plus(2, 400), "OVER");
        only("IF PLUS", state, Check.plus(3, 400));
        only("IF ZERO", state, Check.plus(4, 400));
        only("IF ZERO of 0", () -> withEmptyAcc(state), Check.plus(4, 400));
        only("NOTHING", state, Check.minus(8, 101));
    }

    private static TapeCalculator withEmptyAcc(Twin.Maker state) {
        TapeCalculator x = state.make();
        x.set(1, 0);
        return x;
    }

    private static void sums(Twin.Maker state) {
        for (int act : new int[] {5, 7, 9, 11}) {
            only("act " + act + " of a WHOLE", state, Check.minus(act, 101), ACC, ACC_SIGN, "OVER");
            only("act " + act + " of a HALF", state, Check.plus(act, 102), ACC, ACC_SIGN, "OVER");
        }
    }

    private static void loadsAndStores(Twin.Maker state) {
        for (int act : new int[] {6, 10}) {
            only("act " + act, state, Check.minus(act, 102), ACC, ACC_SIGN);
        }
        for (int act : new int[] {12, 14}) {
            only("act " + act + " to a WHOLE", state, Check.minus(act, 103), "HALF 102", "HALF 103");
            only("act " + act + " to a HALF", state, Check.plus(act, 102), "HALF 102");
        }
        only("13 with minus", state, Check.minus(13, 103), "HALF 102", "HALF 103");
        only("13 with plus", state, Check.plus(13, 102), "HALF 102");
        only("LOAD MQ", state, Check.plus(15, 102), MQ, MQ_SIGN);
    }

    private static void productsAndQuotients(Twin.Maker state) {
        only("TIMES", state, Check.minus(16, 102), ACC, ACC_SIGN, MQ, MQ_SIGN);
        only("TIMES ROUND", state, Check.minus(17, 102), ACC, ACC_SIGN, MQ, MQ_SIGN);
        only("SHARE", state, Check.minus(18, 102), ACC, MQ, MQ_SIGN);
        only("ROUND", state, Check.plus(19, 102), ACC);
    }

    private static void shifts(Twin.Maker state) {
        only("LEFT BOTH", state, Check.plus(20, 3), ACC, ACC_SIGN, MQ);
        only("RIGHT BOTH", state, Check.plus(21, 2), ACC, MQ, MQ_SIGN);
        only("LEFT", state, Check.plus(22, 32), ACC);
        only("LEFT into P", state, Check.plus(22, 33), ACC, "OVER");
        only("RIGHT", state, Check.plus(23, 1), ACC);
    }

    private static void senses(Twin.Maker state) {
        for (int address = 64; address <= 76; address++) {
            boolean asksSwitch = address >= 69 && address <= 72;
            only("SENSE " + address, state, Check.plus(30, address), asksSwitch ? "PLACE" : "LIGHTS");
        }
    }

    /** Each STOP leaves nothing CHOSEN and ends what is written; HALT alone goes on to another PLACE. */
    private static void stops(Twin.Maker state) {
        int chosen = (int) state.make().told(9);
        String[] may = chosen >= 9 && chosen <= 12
            ? with(itemsOf(chosen - 9), "CHOSEN", "WORD SINCE", "TAPE " + (chosen - 9) + " STANDS")
            : new String[] {"CHOSEN"};
        only("HALT", 1, state, Check.plus(0, 400), with(may, "PLACE"));
        for (int act : new int[] {0, 1, 2, 3, 4, 5, 6, 7, 9, 10, 11, 12, 13, 14, 15, 16, 17, 18, 31}) {
            only("act " + act + " of 512", 2, state, Check.plus(act, 512), may);
        }
        only("SHARE by 0", 3, state, Check.plus(18, 404), may);
        for (int act : new int[] {24, 25, 26, 27, 28, 30}) {
            only("act " + act + " of 260", 4, state, Check.plus(act, 260), may);
        }
        if (chosen < 13) {
            only("SET DRUM", 4, state, Check.plus(29, 99), may);
        }
        if (chosen == 0) {
            only("COPY", 6, state, Check.minus(31, 100), may);
        }
    }

    /** In states in which no END OF RECORD is due. */
    private static void unitActs() {
        for (Twin.Maker state : states()) {
            Twin.Maker ended = () -> {
                TapeCalculator x = state.make();
                Check.once(x, Twin.HALT);
                return x;
            };
            for (int t = 0; t < 4; t++) {
                only("READ " + t, ended, Check.plus(24, 256 + t), "CHOSEN");
                only("READ BACK " + t, ended, Check.plus(25, 256 + t), "CHOSEN");
                only("WRITE " + t, ended, Check.plus(26, 256 + t), with(itemsOf(t), "CHOSEN"));
                only("WRITE END " + t, ended, Check.plus(27, 256 + t), with(itemsOf(t), "CHOSEN", "TAPE " + t + " STANDS"));
                only("REWIND " + t, ended, Check.plus(28, 256 + t), "CHOSEN", "TAPE " + t + " STANDS");
            }
            only("READ of THE DRUM", ended, Check.plus(24, 128), "CHOSEN");
            only("WRITE of THE DRUM", ended, Check.plus(26, 128), "CHOSEN");
        }
        only("SET DRUM", AloneTest::readingDrum, Check.plus(29, 99), "DRUM PLACE");
        only("SET DRUM", AloneTest::writingDrum, Check.plus(29, 99), "DRUM PLACE");
    }

    private static String[] itemsOf(int tape) {
        String[] names = new String[5];
        for (int i = 0; i < names.length; i++) {
            names[i] = "TAPE " + tape + " ITEM " + i;
        }
        return names;
    }

    private static String[] with(String[] names, String... more) {
        List<String> all = new ArrayList<>(List.of(names));
        all.addAll(List.of(more));
        return all.toArray(new String[0]);
    }

    private static void copiesOfTapes() {
        only("COPY of a word", AloneTest::reading, Check.minus(31, 103), "HALF 102", "HALF 103", "TAPE 0 STANDS");
        only("COPY of a word to a HALF", AloneTest::reading, Check.plus(31, 102), "HALF 102", "TAPE 0 STANDS");
        only("COPY of nothing", AloneTest::readingBack, Check.minus(31, 103), "CHOSEN");
        only("COPY of an END", () -> chosen(Check.plus(24, 259)), Check.minus(31, 103), "CHOSEN", "TAPE 3 STANDS");
        only("COPY written", AloneTest::writingNone, Check.minus(31, 103), with(itemsOf(1), "TAPE 1 STANDS", "WORD SINCE"));
        only("COPY written again", Twin::writing, Check.plus(31, 102), with(itemsOf(1), "TAPE 1 STANDS"));
    }

    private static void copiesOfTheDrum() {
        only("COPY read", AloneTest::readingDrum, Check.minus(31, 103), "HALF 102", "HALF 103", "DRUM PLACE");
        only("COPY read to a HALF", AloneTest::readingDrum, Check.plus(31, 103), "HALF 103", "DRUM PLACE");
        only("COPY written", AloneTest::writingDrum, Check.minus(31, 103), "DRUM 8", "DRUM PLACE");
    }

    /** A call by hand changes these, all of them, and nothing else. */
    private static void exactly(String what, Twin.Maker state, Twin.Call call, String... names) {
        Twin.Maker behind = () -> {
            TapeCalculator x = state.make();
            call.on(x);
            return x;
        };
        Set<String> changed = Seen.of(state).differences(Seen.of(behind));
        Check.isTrue(what + " changes what it is told to, and not " + changed, changed.equals(new TreeSet<>(Set.of(names))));
    }

    private static void storeByHand(Twin.Maker state) {
        exactly("put", state, x -> x.put(8, 5), "HALF 8");
        for (int k = 1; k <= 4; k++) {
            int number = k;
            long was = state.make().turn(k, false);
            exactly("turn " + k, state, x -> x.turn(number, was == 0), "SWITCH " + k);
            exactly("turn, as it is " + k, state, x -> x.turn(number, was == 1));
        }
    }

    private static void registersByHand(Twin.Maker state) {
        for (int k = 0; k < 6; k++) {
            int what = k;
            long was = state.make().told(what);
            exactly("set " + what, state, x -> x.set(what, was == 0 ? 1 : 0), Seen.register(what));
            exactly("set, as it is " + what, state, x -> x.set(what, was));
        }
    }

    private static int itemsAt(Twin.Maker state, int tape) {
        return state.make().blank(tape);
    }

    private static void tapesByHand(Twin.Maker state) {
        for (int t = 0; t < 4; t++) {
            int tape = t;
            for (long v : new long[] {0, Check.MOST_WORD, Check.RECORD, Check.FILE}) {
                exactly("lay " + v + " on " + t, state, x -> x.lay(tape, v), "TAPE " + t + " ITEM " + itemsAt(state, t));
            }
        }
    }

    private static void textByHand(Twin.Maker state) {
        Twin.Maker empty = () -> {
            TapeCalculator x = state.make();
            x.load();
            return x;
        };
        Twin.Maker fed = () -> {
            TapeCalculator x = empty.make();
            Check.feedText(x, "8 =+5\n");
            return x;
        };
        Twin.Maker faulty = () -> {
            TapeCalculator x = empty.make();
            Check.feedText(x, "8 =+5\n8");
            return x;
        };
        exactly("feed", empty, x -> x.feed('8', 1), "TEXT", "TEXT LOADS");
        exactly("load", fed, TapeCalculator::load, "HALF 8", "TEXT", "TEXT LOADS");
        exactly("load of a fault", faulty, TapeCalculator::load, "TEXT", "TEXT LOADS");
        exactly("load of nothing", empty, TapeCalculator::load);
    }

    /** It forgets the latest STOP, if there was one. */
    private static void runOfNone(Twin.Maker state) {
        if (state.make().told(8) == 0) {
            exactly("run(0)", state, x -> x.run(0));
        } else {
            exactly("run(0)", state, x -> x.run(0), "STOP");
        }
    }

    /** "If it is CHOSEN it stays so; no word was written since, then." */
    private static void blanks() {
        exactly("blank of 0", Twin::writing, x -> x.blank(0), "TAPE 0 ITEM 0", "TAPE 0 ITEM 1");
        exactly("blank of the one that is written", Twin::writing, x -> x.blank(1),
            "TAPE 1 ITEM 0", "TAPE 1 STANDS", "WORD SINCE");
        exactly("blank of 2, that is empty", Twin::writing, x -> x.blank(2));
        exactly("blank of 3", Twin::writing, x -> x.blank(3), "TAPE 3 ITEM 0");
        exactly("blank of the one that is read", AloneTest::reading, x -> x.blank(0), "TAPE 0 ITEM 0", "TAPE 0 ITEM 1");
        exactly("blank of the one that is read back", AloneTest::readingBack, x -> x.blank(1), "TAPE 1 ITEM 0");
    }
}
