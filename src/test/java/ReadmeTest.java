import java.io.IOException;
import java.lang.reflect.Method;
import java.lang.reflect.Modifier;
import java.nio.file.Files;
import java.nio.file.Path;
import java.util.HashMap;
import java.util.List;
import java.util.Map;
import java.util.Set;
import java.util.TreeSet;
import java.util.regex.Matcher;
import java.util.regex.Pattern;
import java.util.stream.Collectors;
import java.util.stream.Stream;

/** README.md is true: its calls answer what it says, it names all calls and all tests; run from the project's folder. */
public final class ReadmeTest {
    private static final Pattern CALL =
        Pattern.compile("(?:(?:int|long) (\\w+) = )?x\\.(\\w+)\\(([^)]*)\\); *// (-?\\d+): .+");
    private static final Due DUE = new Due();

    public static void main(String[] args) throws IOException {
        String page = Files.readString(Path.of("README.md"));
        calls(page.substring(page.indexOf("```java\n") + 8, page.lastIndexOf("\n```")));
        errors(page);
        faces(page);
        tests(page);
        DUE.end();
    }

    private static void calls(String example) {
        TakenUp x = null;
        Map<String, Long> named = new HashMap<>();
        int made = 0;
        for (String line : example.split("\n")) {
            if (line.equals("TakenUp x = new TakenUp();")) {
                x = new TakenUp();
            } else if (!line.isBlank() && !line.startsWith("// ")) {
                Matcher m = CALL.matcher(line);
                if (x == null || !m.matches()) {
                    DUE.is("a line that is no call with its answer: " + line, 0, 1);
                    continue;
                }
                long answer = Calls.call(x, m.group(2), numbers(m.group(3), named));
                DUE.is(line, answer, Long.parseLong(m.group(4)));
                if (m.group(1) != null) {
                    named.put(m.group(1), answer);
                }
                made++;
            }
        }
        DUE.is("there are calls in the example", made > 20 ? 1 : 0, 1);
    }

    private static long[] numbers(String list, Map<String, Long> named) {
        String[] parts = list.isEmpty() ? new String[0] : list.split(", ");
        long[] numbers = new long[parts.length];
        for (int i = 0; i < parts.length; i++) {
            Long known = named.get(parts[i]);
            numbers[i] = known != null ? known : Long.decode(parts[i].replace("L", ""));
        }
        return numbers;
    }

    private static void errors(String page) {
        List<String> names = List.of("BEYOND", "NONE", "STATE", "FULL", "KIND", "PARTED");
        for (int k = 1; k <= 6; k++) {
            String row = "| " + names.get(k - 1) + " | " + (-1000000000 - k) + " | ";
            DUE.is("the page has the row " + row, page.contains(row) ? 1 : 0, 1);
        }
    }

    /** Each call stands in the list of all calls, with as many numbers as it takes, and no other does. */
    private static void faces(String page) {
        Set<String> want = new TreeSet<>();
        for (Method method : TakenUp.class.getDeclaredMethods()) {
            if (Modifier.isPublic(method.getModifiers())) {
                want.add(method.getName() + " of " + method.getParameterCount());
            }
        }
        Set<String> got = new TreeSet<>();
        Matcher row = Pattern.compile("\n\\| (`[^|]*`) \\|").matcher(page);
        while (row.find()) {
            Matcher m = Pattern.compile("`(\\w+)\\(([^)]*)\\)`").matcher(row.group(1));
            while (m.find()) {
                got.add(m.group(1) + " of " + (m.group(2).isEmpty() ? 0 : m.group(2).split(", ").length));
            }
        }
        same("calls", got, want);
    }

    private static void tests(String page) throws IOException {
        Set<String> got = new TreeSet<>();
        Matcher m = Pattern.compile("\n\\| (\\w+Test) \\|").matcher(page);
        while (m.find()) {
            got.add(m.group(1));
        }
        try (Stream<Path> files = Files.list(Path.of("src/test/java"))) {
            same("tests", got, files.map(f -> f.getFileName().toString().replace(".java", ""))
                .filter(name -> name.endsWith("Test")).collect(Collectors.toCollection(TreeSet::new)));
        }
    }

    private static void same(String what, Set<String> got, Set<String> want) {
        Set<String> lacking = new TreeSet<>(want);
        lacking.removeAll(got);
        Set<String> strange = new TreeSet<>(got);
        strange.removeAll(want);
        DUE.is(what + " that the page doesn't name, " + lacking, lacking.size(), 0);
        DUE.is(what + " that there aren't, " + strange, strange.size(), 0);
    }
}
