import java.io.IOException;
import java.lang.reflect.Method;
import java.lang.reflect.Modifier;
import java.nio.file.Files;
import java.nio.file.Path;
import java.util.Arrays;
import java.util.List;
import java.util.regex.Matcher;
import java.util.regex.Pattern;
import java.util.stream.Stream;

/** README.md is held to what the class does: its example is carried out, and its tables are whole. */
public final class ReadmeTest {
    private static final Pattern CALL = Pattern.compile("x\\.(\\w+)\\(([^)]*)\\);(?: *// (-?\\d+))?.*");

    public static void main(String[] args) throws IOException, ReflectiveOperationException {
        String page = Files.readString(Path.of("README.md"));
        example(page.substring(page.indexOf("```java\n") + 8, page.indexOf("```\n", page.indexOf("```java\n"))));
        calls(page.substring(page.indexOf("What can be called:"), page.indexOf("## How to run")));
        tests(page.substring(page.indexOf("## How to run")));
        Due.finish("ReadmeTest");
    }

    /** Each line is one call, and the first number behind its // is the answer. */
    private static void example(String block) throws ReflectiveOperationException {
        RerootStore x = new RerootStore();
        int answers = 0;
        for (String line : block.split("\n")) {
            Matcher m = CALL.matcher(line);
            if (!m.matches()) {
                Due.due("this line is a call: " + line, line.startsWith("//") || line.equals("RerootStore x = new RerootStore();") ? 1 : 0, 1);
                continue;
            }
            Integer[] given = Stream.of(m.group(2).split(", *")).filter(n -> !n.isEmpty()).map(Integer::valueOf).toArray(Integer[]::new);
            Class<?>[] types = new Class<?>[given.length];
            Arrays.fill(types, int.class);
            long got = ((Number) RerootStore.class.getMethod(m.group(1), types).invoke(x, (Object[]) given)).longValue();
            if (m.group(3) != null) {
                answers++;
                Due.due("the example's " + line, got, Long.parseLong(m.group(3)));
            }
        }
        Due.due("the example tells some answers", answers > 3 ? 1 : 0, 1);
        Due.due("the example feeds the text that stands above it", block.contains("\"" + fed(block).trim() + "\"") ? 1 : 0, 1);
    }

    /** The bytes of all numbers that the example feeds; trim() takes the noughts behind them, too. */
    private static String fed(String block) {
        StringBuilder text = new StringBuilder();
        Matcher feeds = Pattern.compile("x\\.feed\\(([^)]*)\\)").matcher(block);
        while (feeds.find()) {
            for (String number : feeds.group(1).split(", ")) {
                for (int shift = 24; shift >= 0; shift -= 8) {
                    text.append((char) (Integer.parseInt(number) >>> shift & 255));
                }
            }
        }
        return text.toString();
    }

    private static void calls(String table) {
        for (Method m : RerootStore.class.getDeclaredMethods()) {
            if (Modifier.isPublic(m.getModifiers())) {
                Due.due("README.md names " + m.getName(), timesIn(table, "`" + m.getName() + "`[^\n]* \\| "), 1);
            }
        }
    }

    private static void tests(String table) throws IOException {
        List<String> names;
        try (Stream<Path> files = Files.list(Path.of("src/test/java"))) {
            names = files.map(f -> f.getFileName().toString()).filter(f -> f.endsWith("Test.java")).map(f -> f.replace(".java", "")).toList();
        }
        for (String name : names) {
            Due.due("README.md names " + name, timesIn(table, "\\| " + name + " \\| "), 1);
        }
        Due.due("README.md names no test that is not there", timesIn(table, "\\| \\w+Test \\| "), names.size());
    }

    private static int timesIn(String text, String pattern) {
        return (int) Pattern.compile(pattern).matcher(text).results().count();
    }
}
