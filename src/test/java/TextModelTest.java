import java.util.Random;
import java.util.regex.Matcher;
import java.util.regex.Pattern;

/** Random texts, of a fixed seed, on the class and on a reader with other means: regular expressions. */
final class TextModelTest {
    private static final String ALPHABET = "0123456789 +-=\n0159 +-=\n:/x\u00ff";
    private static final Pattern LINE = Pattern.compile(
        "([0-9]{1,4}) (?:([0-9]{1,2})([+-])([0-9]{1,4})|=([+-])([0-9]{1,6})|==([+-])([0-9]{1,11}))\n");
    /** What there is of a LINE, as far as it goes: its numbers, and whether it has ==. */
    private static final Pattern BEGUN = Pattern.compile(
        "([0-9]{1,4})(?: (?:([0-9]{1,2})(?:[+-]([0-9]{1,4})?)?|==(?:[+-]([0-9]{1,11})?)?|=(?:[+-]([0-9]{1,6})?)?)?)?\n?");
    private static final long[] TOO_GREAT = {0, 512, 32, 4096, 1L << 35, 1L << 17};

    private final Random random;
    private final int[] halves = new int[512];
    private int lines;

    private TextModelTest(long seed) {
        random = new Random(seed);
    }

    public static void main(String[] args) {
        for (long seed = 1; seed <= 20000; seed++) {
            new TextModelTest(seed).oneText();
        }
        Check.end();
    }

    private void oneText() {
        String text = changed(anyLines());
        TapeCalculator x = new TapeCalculator();
        Check.feedText(x, text);
        int fault = firstFault(text);
        Check.due("load of '" + text.replace('\n', '|') + "'", x.load(), fault < 0 ? lines : -10 - fault);
        for (int n = 0; n < 512; n += 1 + random.nextInt(40)) {
            Check.due("half " + n + " of '" + text.replace('\n', '|') + "'", x.half(n), fault < 0 ? halves[n] : 0);
        }
    }

    private String anyLines() {
        StringBuilder text = new StringBuilder();
        int count = random.nextInt(40) == 0 ? 195 + random.nextInt(10) : random.nextInt(5);
        for (int i = 0; i < count && text.length() < 1900; i++) {
            text.append(count > 100 ? "1 2+3\n" : anyLine());
        }
        return text.toString();
    }

    private String anyLine() {
        String sign = random.nextBoolean() ? "+" : "-";
        int address = random.nextInt(520);
        switch (random.nextInt(3)) {
            case 0: return address + " " + random.nextInt(33) + sign + random.nextInt(4200) + "\n";
            case 1: return address + " =" + sign + random.nextInt(132000) + "\n";
            default: return (random.nextInt(5) == 0 ? address : address & ~1) + " ==" + sign + anySize() + "\n";
        }
    }

    private long anySize() {
        return (random.nextLong() & (1L << 36) - 1) >> random.nextInt(30);
    }

    /** Some bytes are left out, put in between, or put in another's stead; or the end is cut off. */
    private String changed(String lines) {
        StringBuilder text = new StringBuilder(lines);
        for (int edits = random.nextInt(3); edits > 0 && text.length() > 0; edits--) {
            int at = random.nextInt(text.length());
            char strange = ALPHABET.charAt(random.nextInt(ALPHABET.length()));
            switch (random.nextInt(5)) {
                case 0: text.deleteCharAt(at); break;
                case 1: text.insert(at, strange); break;
                case 2: text.insert(at, '0'); break;
                case 3: text.setCharAt(at, strange); break;
                default: text.setLength(random.nextInt(4) == 0 ? at : text.length()); break;
            }
        }
        return text.toString();
    }

    /** -1: none; the halves are as the LINES tell then. */
    private int firstFault(String text) {
        int from = 0;
        for (lines = 0; from < text.length(); lines++) {
            if (lines == 200) {
                return from;
            }
            int end = endOfWhatCanBe(text, from);
            String line = text.substring(from, end);
            int wrong = wrongValue(line);
            if (wrong >= 0) {
                return from + wrong;
            }
            Matcher whole = LINE.matcher(line);
            if (!whole.matches()) {
                return end;
            }
            keep(whole);
            from = end;
        }
        return -1;
    }

    /** The end of the longest beginning of a LINE. */
    private static int endOfWhatCanBe(String text, int from) {
        int end = from;
        while (end < text.length()) {
            Matcher m = LINE.matcher(text.substring(from, end + 1));
            if (m.matches()) {
                return end + 1;
            }
            if (!m.hitEnd()) {
                return end;
            }
            end++;
        }
        return end;
    }

    /** The first figure of the first number that is wrong, or -1. */
    private static int wrongValue(String line) {
        Matcher m = BEGUN.matcher(line);
        if (!m.matches()) {
            return -1;
        }
        boolean odd = line.contains("==") && Long.parseLong(m.group(1)) % 2 == 1;
        if (odd) {
            return 0;
        }
        for (int g = 1; g <= m.groupCount(); g++) {
            if (m.group(g) != null && Long.parseLong(m.group(g)) >= TOO_GREAT[g]) {
                return m.start(g);
            }
        }
        return -1;
    }

    private void keep(Matcher line) {
        int n = Integer.parseInt(line.group(1));
        if (line.group(2) != null) {
            halves[n] = half(line.group(3), Integer.parseInt(line.group(2)) * 4096 + Integer.parseInt(line.group(4)));
        } else if (line.group(5) != null) {
            halves[n] = half(line.group(5), Integer.parseInt(line.group(6)));
        } else {
            long size = Long.parseLong(line.group(8));
            halves[n] = half(line.group(7), (int) (size / 262144));
            halves[n + 1] = (int) (size % 262144);
        }
    }

    private static int half(String sign, int size) {
        return (sign.equals("-") ? 131072 : 0) + size;
    }
}
