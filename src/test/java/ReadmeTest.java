import java.lang.reflect.Method;
import java.lang.reflect.Modifier;
import java.nio.file.Files;
import java.nio.file.Path;
import java.util.List;
import java.util.TreeSet;
import java.util.regex.Matcher;
import java.util.regex.Pattern;

/** README.md: it tells each call of the class and no other, each test, and an example that does what it says. */
final class ReadmeTest {
    public static void main(String[] args) throws Exception {
        String readme = Files.readString(Path.of("README.md"));
        calls(readme);
        words(readme);
        tests(readme);
        Check.isTrue("README.md tells the command that runs the tests", readme.contains("    .ci/run\n"));
        example(readme);
        exampleAsText(readme);
        Check.end();
    }

    /** The rows of its tables, such as | `int half(int n)` | .. |, without the names of what is handed over. */
    private static void calls(String readme) {
        TreeSet<String> told = new TreeSet<>();
        Matcher row = Pattern.compile("(?m)^\\| `((?:int|long) \\w+\\([^)]*\\))` \\| .+ \\|$").matcher(readme);
        while (row.find()) {
            Check.isTrue("one row of " + row.group(1), told.add(row.group(1).replaceAll(" \\w+(?=[,)])", "").replace(", ", ",")));
        }
        TreeSet<String> there = new TreeSet<>();
        for (Method m : TapeCalculator.class.getDeclaredMethods()) {
            if (Modifier.isPublic(m.getModifiers())) {
                there.add(m.toString().replace("public ", "").replace("TapeCalculator.", ""));
            }
        }
        Check.isTrue("README.md tells " + told + ", there are " + there, told.equals(there));
    }

    /** Its rows say what the document says, in the document's words. */
    private static void words(String readme) throws Exception {
        Path document = Path.of("../shared/DOC.md");
        if (!Files.exists(document)) {
            return;
        }
        Matcher promise = Pattern.compile("(?m)^`((?:int|long) \\w+\\([^)]*\\))`: (.+)$").matcher(Files.readString(document));
        int promises = 0;
        while (promise.find()) {
            promises++;
            String row = "\n| `" + promise.group(1) + "` | " + promise.group(2) + " |\n";
            Check.isTrue("README.md tells " + promise.group(1) + " in the document's words", readme.contains(row));
        }
        Check.due("promises of methods", promises, 18);
    }

    private static void tests(String readme) throws Exception {
        try (var files = Files.list(Path.of("src/test/java"))) {
            for (Path file : files.toList()) {
                String name = file.getFileName().toString().replace(".java", "");
                Check.isTrue("README.md tells " + name, !name.endsWith("Test") || readme.contains("`" + name + "`"));
            }
        }
    }

    /** Each line of the example with a number behind // answers that number. */
    private static void example(String readme) {
        List<String> lines = List.of(
            "x.put(100, 7);              // 0:",
            "x.put(0, 10 << 12 | 100);   // LOAD",
            "x.put(1, 9 << 12 | 100);    // ADD",
            "x.put(2, 12 << 12 | 101);   // STORE",
            "x.put(3, 0);                // HALT",
            "x.run(100);                 // 4:",
            "x.told(8);                  // 1:",
            "x.half(101);                // 14\n");
        for (String line : lines) {
            Check.isTrue("README.md has " + line, readme.contains("\n" + line));
        }
        TapeCalculator x = new TapeCalculator();
        Check.due("put(100, 7)", x.put(100, 7), 0);
        x.put(0, 10 << 12 | 100);
        x.put(1, 9 << 12 | 100);
        x.put(2, 12 << 12 | 101);
        x.put(3, 0);
        dueSum(x);
    }

    private static void exampleAsText(String readme) {
        String text = "100 =+7\n0 10+100\n1 9+100\n2 12+101\n3 0+0\n";
        Check.isTrue("README.md has the text", readme.contains("`\"" + text.replace("\n", "\\n") + "\"`"));
        TapeCalculator x = new TapeCalculator();
        Check.feedText(x, text);
        Check.due("load", x.load(), 5);
        dueSum(x);
    }

    private static void dueSum(TapeCalculator x) {
        Check.due("run(100)", x.run(100), 4);
        Check.due("told(8)", x.told(8), 1);
        Check.due("half(101)", x.half(101), 14);
    }
}
