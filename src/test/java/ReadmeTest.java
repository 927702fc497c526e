import java.io.IOException;
import java.nio.file.Files;
import java.nio.file.Path;
import java.util.List;
import java.util.TreeSet;
import java.util.regex.Matcher;
import java.util.regex.Pattern;
import java.util.stream.Stream;

/**
 * README.md is asked like a program: its lines with an answer behind them, on one object from the first to
 * the last. It must name every call of the public face and every test.
 */
public final class ReadmeTest {
    private static final Path README = Path.of("README.md");
    private static final Path TESTS = Path.of("src/test/java");
    private static final Pattern LINE = Pattern.compile(
        "(?m)^    (?:tell\\(x, \"([^\"]*)\"\\)|x\\.(\\w+)\\(([-\\d, ]*)\\));\\s+// (-?\\d+): .+$");
    private static final Pattern ANSWERED = Pattern.compile("(?m)^    .*// -?\\d.*$");

    private ReadmeTest() {
    }

    public static void main(String[] args) throws IOException {
        String text = Files.readString(README);
        Due test = new Due();
        lines(test, text);
        for (String name : calls()) {
            boolean named = text.contains("`" + name + "`") || text.contains("`" + name + "(");
            test.due("README.md names the call " + name, named ? 1 : 0, 1);
        }
        for (String name : tests()) {
            test.due("README.md names the test " + name, text.contains("| " + name + " |") ? 1 : 0, 1);
        }
        test.end();
    }

    private static void lines(Due test, String text) {
        HowFarShesGot x = new HowFarShesGot();
        Matcher line = LINE.matcher(text);
        int asked = 0;
        while (line.find()) {
            asked++;
            boolean told = line.group(1) != null;
            long got = told ? Due.tell(x, line.group(1)) : ask(x, line.group(2), line.group(3));
            test.due("README.md: " + line.group().strip(), got, Long.parseLong(line.group(4)));
        }
        long answered = ANSWERED.matcher(text).results().count();
        test.due("README.md: lines that are asked, of those with an answer", asked, answered);
        test.due("README.md: some of its lines are asked", asked > 20 ? 1 : 0, 1);
    }

    private static long ask(HowFarShesGot x, String name, String told) {
        int[] numbers = new int[3];
        String[] parts = told.isEmpty() ? new String[0] : told.split(", ");
        for (int i = 0; i < parts.length; i++) {
            numbers[i] = Integer.parseInt(parts[i]);
        }
        return Calls.program(x, name, numbers[0], numbers[1], numbers[2]);
    }

    private static TreeSet<String> calls() {
        TreeSet<String> names = new TreeSet<>();
        for (var method : HowFarShesGot.class.getMethods()) {
            if (method.getDeclaringClass() == HowFarShesGot.class) {
                names.add(method.getName());
            }
        }
        return names;
    }

    private static List<String> tests() throws IOException {
        try (Stream<Path> files = Files.list(TESTS)) {
            return files.map(file -> file.getFileName().toString()).filter(name -> name.endsWith("Test.java"))
                .map(name -> name.replace(".java", "")).sorted().toList();
        }
    }
}
