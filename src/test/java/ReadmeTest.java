import java.io.IOException;
import java.lang.reflect.Method;
import java.nio.file.DirectoryStream;
import java.nio.file.Files;
import java.nio.file.Path;
import java.util.ArrayList;
import java.util.HashMap;
import java.util.List;
import java.util.Map;
import java.util.Set;
import java.util.TreeSet;
import java.util.regex.Matcher;
import java.util.regex.Pattern;

/**
 * That README.md holds: its example run of calls answers as it says, line by line, and it tells of
 * every call of the document's face and of every test.
 */
public final class ReadmeTest {
    private static final Path README = Path.of("README.md"), DOCUMENT = Path.of("../shared/DOC.md"),
        SOURCE = Path.of("src/main/java/NobodyChecks.java");
    private static final Pattern MADE = Pattern.compile("NobodyChecks x = new NobodyChecks\\(\\);"),
        CALL = Pattern.compile("(?:(int|long) (\\w+) = )?x\\.(\\w+)\\((.*)\\); +// (-?\\d+|[A-Z]+)(?:: .+)?"),
        FACE = Pattern.compile("public ((?:int|long) \\w+\\(.*\\))(?:;| \\{)");

    private final Set<String> called = new TreeSet<>();
    private final Map<String, Long> kept = new HashMap<>();
    private NobodyChecks x;
    private int calls;

    public static void main(String[] args) throws Exception {
        List<String> lines = Files.readAllLines(README);
        new ReadmeTest().example(blockOf(lines));
        tellsOfCalls(lines);
        tellsOfTests(lines);
        Due.end();
    }

    private static void holds(String what, boolean held) {
        Due.due(what, held ? 1 : 0, 1);
    }

    /** The lines of the one block of Java. */
    private static List<String> blockOf(List<String> lines) {
        int from = lines.indexOf("```java") + 1;
        int to = from + lines.subList(from, lines.size()).indexOf("```");
        holds("one example", from > 0 && to > from && !lines.subList(to, lines.size()).contains("```java"));
        return lines.subList(from, to);
    }

    private void example(List<String> lines) throws Exception {
        for (String line : lines) {
            if (MADE.matcher(line).matches()) {
                x = new NobodyChecks();
            } else if (!line.isBlank()) {
                call(line);
            }
        }
        holds("calls for one object: " + calls, calls > 0 && calls <= 512);
        for (Method m : NobodyChecks.class.getDeclaredMethods()) {
            if (java.lang.reflect.Modifier.isPublic(m.getModifiers())) {
                holds("the example calls " + m.getName(), called.contains(m.getName()));
            }
        }
    }

    /** Calls what a line says, and holds the answer against the one behind its sign of comment. */
    private void call(String line) throws Exception {
        Matcher m = CALL.matcher(line);
        boolean read = m.matches();
        holds("a call with its answer: " + line, read);
        if (!read || x == null) {
            return;
        }
        Method method = methodOf(m.group(3));
        String[] given = m.group(4).isEmpty() ? new String[0] : m.group(4).split(", ");
        holds("as many numbers as it takes: " + line, given.length == method.getParameterCount());
        Object[] numbers = new Object[given.length];
        for (int k = 0; k < given.length; k++) {
            boolean isLong = method.getParameterTypes()[k] == long.class;
            long number = numberOf(given[k]);
            holds("an int where an int is due: " + line, isLong || (int) number == number && !given[k].endsWith("L"));
            numbers[k] = isLong ? (Object) number : (Object) (int) number;
        }
        long answer = ((Number) method.invoke(x, numbers)).longValue();
        calls++;
        called.add(method.getName());
        Due.due(line, answer, numberOf(m.group(5)));
        if (m.group(1) != null) {
            holds("of the type it answers: " + line, method.getReturnType().getName().equals(m.group(1)));
            kept.put(m.group(2), answer);
        }
    }

    private static Method methodOf(String name) {
        for (Method m : NobodyChecks.class.getDeclaredMethods()) {
            if (m.getName().equals(name)) {
                return m;
            }
        }
        throw new IllegalArgumentException("no call " + name);
    }

    private long numberOf(String word) throws Exception {
        String name = word.replace("NobodyChecks.", "");
        if (kept.containsKey(name)) {
            return kept.get(name);
        }
        if (name.matches("[A-Z]+")) {
            return NobodyChecks.class.getField(name).getInt(null);
        }
        return Long.decode(name.endsWith("L") ? name.substring(0, name.length() - 1) : name);
    }

    /** Every call stands at the head of a line of a table, as the document's face writes it. */
    private static void tellsOfCalls(List<String> lines) throws IOException {
        Path face = Files.exists(DOCUMENT) ? DOCUMENT : SOURCE;
        int found = 0;
        for (String line : Files.readAllLines(face)) {
            Matcher m = FACE.matcher(line.trim());
            if (m.matches()) {
                found++;
                String head = "| `" + m.group(1) + "` |";
                long told = lines.stream().filter(each -> each.startsWith(head) && each.split(" \\| ").length >= 3).count();
                Due.due("told once: " + m.group(1), told, 1);
            }
        }
        Due.due("calls of the face", found, 27);
    }

    private static void tellsOfTests(List<String> lines) throws IOException {
        List<String> tests = new ArrayList<>();
        try (DirectoryStream<Path> files = Files.newDirectoryStream(Path.of("src/test/java"), "*Test.java")) {
            for (Path file : files) {
                tests.add(file.getFileName().toString().replace(".java", ""));
            }
        }
        for (String test : tests) {
            Due.due("told once: " + test, lines.stream().filter(each -> each.startsWith("| " + test + " |")).count(), 1);
        }
        long told = lines.stream().filter(each -> each.matches("\\| \\w+Test \\|.*")).count();
        Due.due("no test is told that is not there", told, tests.size());
    }
}
