import java.util.Map;
import java.util.Set;
import java.util.TreeMap;
import java.util.TreeSet;

/** All that can be seen of an object, each by a name; each part is asked of an object of its own, made alike. */
final class Seen {
    private static final String[] REGISTERS = {"ACC SIGN", "ACC SIZE", "MQ SIGN", "MQ SIZE", "OVER", "PLACE", "LIGHTS",
        "DRUM PLACE", "STOP", "CHOSEN"};

    private final Map<String, Long> values = new TreeMap<>();

    private Seen() {
    }

    static Seen of(Twin.Maker maker) {
        Seen seen = new Seen();
        seen.askHalves(maker.make(), 0);
        seen.askHalves(maker.make(), 256);
        seen.askRegistersAndDrum(maker.make());
        for (int tape = 0; tape < 4; tape++) {
            seen.askTape(maker.make(), tape);
        }
        seen.askText(maker.make());
        seen.values.put("WORD SINCE", wordSince(maker.make()));
        return seen;
    }

    static String register(int what) {
        return REGISTERS[what];
    }

    /** The names of what one has and the other has not, or not so. */
    Set<String> differences(Seen other) {
        Set<String> names = new TreeSet<>(values.keySet());
        names.addAll(other.values.keySet());
        names.removeIf(name -> values.containsKey(name) && values.get(name).equals(other.values.get(name)));
        return names;
    }

    private void askHalves(TapeCalculator x, int from) {
        for (int n = from; n < from + 256; n++) {
            values.put("HALF " + n, (long) x.half(n));
        }
    }

    private void askRegistersAndDrum(TapeCalculator x) {
        for (int what = 0; what < REGISTERS.length; what++) {
            values.put(REGISTERS[what], x.told(what));
        }
        for (int i = 0; i < 256; i++) {
            values.put("DRUM " + i, x.drum(i));
        }
        for (int k = 1; k <= 4; k++) {
            values.put("SWITCH " + k, (long) x.turn(k, false));
        }
        values.put("ACTS", x.acts());
    }

    private void askTape(TapeCalculator x, int tape) {
        values.put("TAPE " + tape + " STANDS", (long) x.stands(tape));
        for (int i = 0; x.item(tape, i) != Check.NONE; i++) {
            values.put("TAPE " + tape + " ITEM " + i, x.item(tape, i));
        }
    }

    private void askText(TapeCalculator x) {
        values.put("TEXT", (long) x.feed(10, 1));
        values.put("TEXT LOADS", (long) x.load());
    }

    /** An END OF RECORD that HALT puts shows that a word was written since. */
    private static long wordSince(TapeCalculator x) {
        x.put((int) x.told(5), Twin.HALT);
        long before = endsOf(x);
        x.step();
        return endsOf(x) - before;
    }

    private static long endsOf(TapeCalculator x) {
        long ends = 0;
        for (int tape = 0; tape < 4; tape++) {
            for (int i = 0; x.item(tape, i) != Check.NONE; i++) {
                ends += x.item(tape, i) == Check.RECORD ? 1 : 0;
            }
        }
        return ends;
    }
}
