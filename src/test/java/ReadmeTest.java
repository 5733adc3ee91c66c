import java.io.IOException;
import java.lang.reflect.Method;
import java.nio.file.Files;
import java.nio.file.Path;
import java.util.List;
import java.util.Set;
import java.util.TreeSet;
import java.util.regex.Matcher;
import java.util.regex.Pattern;
import java.util.stream.Collectors;
import java.util.stream.Stream;

/** What README.md tells: its calls are made, its findings are those of the document, its tests are those that there are. */
public final class ReadmeTest {
    private static final List<String> FINDINGS = List.of("BEYOND", "FULL", "KIND", "NONE", "STATE", "MISSING", "SIZE");
    private static final String MAKES = "InkHours x = new InkHours();";
    private static final Pattern CALL = Pattern.compile("x\\.(\\w+)\\(([^)]*)\\); +// (-?\\w+)(: .+)?");
    private static final Pattern ROW = Pattern.compile("\\| ([A-Z]+) \\| (-\\d+) \\| (\\d) \\| .+ \\|");
    private static final Path TESTS = Path.of("src", "test", "java");

    private final Due due = new Due("ReadmeTest");
    private final List<String> lines;
    private final String document;
    private final Set<String> called = new TreeSet<>();
    private final Set<String> answered = new TreeSet<>();

    private ReadmeTest() throws IOException {
        lines = Files.readAllLines(Path.of("README.md"));
        document = Files.readString(Path.of("..", "shared", "DOC.md"));
    }

    public static void main(String[] args) throws Exception {
        ReadmeTest test = new ReadmeTest();
        test.examples();
        test.allIsCalled();
        test.findings();
        test.testsAreNamed();
        test.due.end();
    }

    private void examples() throws ReflectiveOperationException {
        InkHours x = null;
        boolean inside = false;
        for (String line : lines) {
            if (line.startsWith("```")) {
                inside = line.equals("```java");
                // Each example stands alone: it makes its own object.
                x = null;
            } else if (inside && line.equals(MAKES)) {
                x = new InkHours();
            } else if (inside) {
                call(x, line);
            }
        }
    }

    private void call(InkHours x, String line) throws ReflectiveOperationException {
        Matcher m = CALL.matcher(line);
        if (x == null || !m.matches()) {
            due.is("a call with its answer, on an object that was made: " + line, 0, 1);
            return;
        }
        called.add(m.group(1));
        answered.add(m.group(3));
        due.is("README.md: " + line, answer(x, m.group(1), m.group(2)), number(m.group(3)));
    }

    private static int answer(InkHours x, String name, String arguments) throws ReflectiveOperationException {
        String[] words = arguments.isEmpty() ? new String[0] : arguments.split(", ");
        Class<?>[] types = new Class<?>[words.length];
        Object[] values = new Object[words.length];
        for (int i = 0; i < words.length; i++) {
            boolean truth = words[i].equals("true") || words[i].equals("false");
            types[i] = truth ? boolean.class : int.class;
            values[i] = truth ? (Object) Boolean.valueOf(words[i]) : (Object) Integer.decode(words[i]);
        }
        return (Integer) InkHours.class.getMethod(name, types).invoke(x, values);
    }

    private static int number(String answer) {
        int finding = FINDINGS.indexOf(answer);
        return finding >= 0 ? Due.BEYOND - finding : Integer.decode(answer);
    }

    private void allIsCalled() {
        for (Method m : InkHours.class.getMethods()) {
            if (m.getDeclaringClass() == InkHours.class) {
                due.is("README.md calls " + m.getName(), called.contains(m.getName()) ? 1 : 0, 1);
            }
        }
        for (String finding : FINDINGS) due.is("README.md gets " + finding, answered.contains(finding) ? 1 : 0, 1);
    }

    private void findings() {
        int rows = 0;
        for (String line : lines) {
            Matcher m = ROW.matcher(line);
            if (m.matches() && rows < FINDINGS.size()) {
                String finding = FINDINGS.get(rows);
                due.is("in the document's order: " + line, m.group(1).equals(finding) ? 1 : 0, 1);
                due.is("the answer: " + line, Integer.parseInt(m.group(2)), Due.BEYOND - rows);
                due.is("the number for status: " + line, Integer.parseInt(m.group(3)), rows);
                String words = rows == 0 ? "LOW " + finding : "LOW - " + rows + " " + finding;
                due.is("the document says " + words, document.contains(words) ? 1 : 0, 1);
                rows++;
            }
        }
        due.is("rows of findings", rows, FINDINGS.size());
    }

    private void testsAreNamed() throws IOException {
        Set<String> there;
        try (Stream<Path> files = Files.list(TESTS)) {
            there = files.map(file -> file.getFileName().toString()).filter(name -> name.endsWith("Test.java"))
                .map(name -> name.substring(0, name.length() - ".java".length())).collect(Collectors.toCollection(TreeSet::new));
        }
        String all = String.join("\n", lines);
        Set<String> named = new TreeSet<>();
        Matcher m = Pattern.compile("`(\\w+Test)`").matcher(all);
        while (m.find()) named.add(m.group(1));
        due.is("README.md names the tests " + named + ", there are " + there, named.equals(there) ? 1 : 0, 1);
        due.is("README.md says how all are run", all.contains("`.ci/run` runs all") && Files.isExecutable(Path.of(".ci", "run")) ? 1 : 0, 1);
    }
}
