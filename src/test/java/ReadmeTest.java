import java.io.IOException;
import java.lang.reflect.InvocationTargetException;
import java.nio.file.Files;
import java.nio.file.Path;
import java.util.List;
import java.util.regex.Matcher;
import java.util.regex.Pattern;
import java.util.stream.Collectors;
import java.util.stream.Stream;

/** What README.md says: each call of its example has the answer behind it, and it names every test and every call that changes something. */
public final class ReadmeTest {
    private static final Pattern CALL = Pattern.compile("trust\\.(\\w+)\\(([^)]*)\\); +// (-?\\d+|true|false)(: .*)?");
    private static final String[] CHANGING = {
        "sign", "end", "songs", "hearers", "rule", "law", "sheet", "nights", "comes", "hum", "stake", "gain", "advance",
        "spring", "undo", "look", "forget", "told", "deny", "keep", "again",
    };

    private ReadmeTest() {
    }

    public static void main(String[] args) throws IOException, ReflectiveOperationException {
        Check check = new Check();
        List<String> lines = Files.readAllLines(Path.of("README.md"));
        example(check, lines);
        String page = String.join("\n", lines);
        for (String name : tests()) {
            check.due("README.md names " + name, page.contains("`" + name + "`"), true);
        }
        for (String call : CHANGING) {
            check.due("README.md names " + call, page.contains("`" + call + "`"), true);
        }
        check.end();
    }

    private static void example(Check check, List<String> lines) throws ReflectiveOperationException {
        HeldInTrust trust = null;
        int calls = 0;
        for (String line : lines) {
            if (line.equals("HeldInTrust trust = new HeldInTrust();")) {
                trust = new HeldInTrust();
            } else if (line.startsWith("trust.")) {
                Matcher m = CALL.matcher(line);
                check.due("README.md tells call and answer: " + line, m.matches() && trust != null, true);
                if (m.matches() && trust != null) {
                    check.due("README.md: " + line, answer(trust, m.group(1), m.group(2)), told(m.group(3)));
                    calls++;
                }
            }
        }
        check.due("README.md has an example", calls > 20, true);
    }

    private static long told(String answer) {
        if (answer.equals("true") || answer.equals("false")) {
            return answer.equals("true") ? 1 : 0;
        }
        return Long.parseLong(answer);
    }

    private static long answer(HeldInTrust trust, String name, String said) throws ReflectiveOperationException {
        String[] numbers = said.isEmpty() ? new String[0] : said.split(", ");
        Object[] values = new Object[numbers.length];
        Class<?>[] types = new Class<?>[numbers.length];
        for (int i = 0; i < numbers.length; i++) {
            values[i] = Integer.decode(numbers[i]);
            types[i] = int.class;
        }
        try {
            Object got = HeldInTrust.class.getMethod(name, types).invoke(trust, values);
            return got instanceof Boolean ? (Boolean) got ? 1 : 0 : ((Number) got).longValue();
        } catch (InvocationTargetException thrown) {
            throw new IllegalStateException("README.md: " + name + "(" + said + ") throws", thrown.getCause());
        }
    }

    private static List<String> tests() throws IOException {
        try (Stream<Path> files = Files.list(Path.of("src/test/java"))) {
            return files.map(p -> p.getFileName().toString())
                .filter(n -> n.endsWith("Test.java"))
                .map(n -> n.substring(0, n.length() - ".java".length()))
                .sorted()
                .collect(Collectors.toList());
        }
    }
}
