import java.io.IOException;
import java.lang.reflect.Constructor;
import java.lang.reflect.Field;
import java.lang.reflect.Method;
import java.lang.reflect.Modifier;
import java.nio.file.Files;
import java.nio.file.Path;
import java.util.HashSet;
import java.util.List;
import java.util.Set;
import java.util.TreeSet;
import java.util.regex.Matcher;
import java.util.regex.Pattern;

/** What a test can see of ../shared/LANGUAGE.md, and that the face is the document's; run from the project's folder. */
public final class RulesTest {
    private static final Path SOURCE = Path.of("src/main/java/TakenUp.java");
    private static final Path DOC = Path.of("../shared/DOC.md");
    private static final Set<String> LIBRARY = Set.of("Math.abs", "Math.max", "Math.min", "System.arraycopy");
    private static final Set<Class<?>> CONSTANTS = Set.of(int.class, long.class, boolean.class, char.class, String.class,
        int[].class, long[].class, char[].class, byte[].class);
    private static int wrong = 0;

    public static void main(String[] args) throws IOException {
        String source = Files.readString(SOURCE);
        String code = source.replaceAll("(?s)/\\*.*?\\*/", "").replaceAll("//[^\n]*", "")
            .replaceAll("\"[^\"\n]*\"", "\"\"").replaceAll("'[^'\n]*'", "' '");
        face(Files.readString(DOC));
        headings(Files.readString(DOC), source);
        classes();
        words(code);
        library(code);
        methods(code);
        rule("signs of constants", source.chars().allMatch(c -> c < 128));
        System.out.println(wrong + " rules are broken");
        if (wrong != 0) {
            System.exit(1);
        }
    }

    private static void rule(String what, boolean holds) {
        if (!holds) {
            wrong++;
            System.out.println("broken: " + what);
        }
    }

    /** Rule 1: the public methods are those of the document, and nothing else of it can be seen. */
    private static void face(String doc) {
        String block = doc.substring(doc.indexOf("```java"), doc.indexOf("```", doc.indexOf("```java") + 7));
        Set<String> want = new TreeSet<>();
        Matcher m = Pattern.compile("public (int|long) (\\w+)\\(([^)]*)\\);").matcher(block);
        while (m.find()) {
            want.add(m.group(1) + " " + m.group(2) + "(" + m.group(3).replaceAll(" \\w+(?=,|$)", "") + ")");
        }
        Set<String> got = new TreeSet<>();
        Set<String> names = new HashSet<>();
        for (Method method : TakenUp.class.getDeclaredMethods()) {
            if (Modifier.isPublic(method.getModifiers())) {
                StringBuilder types = new StringBuilder();
                for (Class<?> type : method.getParameterTypes()) {
                    types.append(types.length() == 0 ? "" : ", ").append(type.getName());
                }
                got.add(method.getReturnType().getName() + " " + method.getName() + "(" + types + ")");
                names.add(method.getName());
            } else {
                rule(method + " is private", Modifier.isPrivate(method.getModifiers()));
            }
        }
        rule("the face: " + want + " and not " + got, want.equals(got) && want.size() == 37);
        rule("public and final", Modifier.isPublic(TakenUp.class.getModifiers()) && Modifier.isFinal(TakenUp.class.getModifiers()));
        Constructor<?>[] constructors = TakenUp.class.getDeclaredConstructors();
        rule("one public constructor", constructors.length == 1 && Modifier.isPublic(constructors[0].getModifiers())
            && constructors[0].getParameterCount() == 0);
        for (Class<?> c : all()) {
            for (Method method : c.getDeclaredMethods()) {
                rule(c + ": " + method.getName() + " bears a public name",
                    !Modifier.isPrivate(method.getModifiers()) || !names.contains(method.getName()));
                rule(method + " has at most 7 parameters", method.getParameterCount() <= 7);
            }
        }
    }

    /** What the interface says ahead of which calls. */
    private static void headings(String doc, String source) {
        Matcher m = Pattern.compile("Ahead of the calls (.*) the interface says: (---- .*)\\.").matcher(doc);
        int headings = 0;
        while (m.find()) {
            headings++;
            int from = source.indexOf("// " + m.group(2) + "\n");
            rule("the interface says " + m.group(2), from >= 0);
            List<String> got = new java.util.ArrayList<>();
            Matcher call = Pattern.compile("\n    (?:public \\w+ (\\w+)\\(|// ----)").matcher(source);
            for (int at = from + 1; from >= 0 && call.find(at) && call.group(1) != null; at = call.end()) {
                got.add(call.group(1));
            }
            rule(m.group(2) + " of " + m.group(1) + " and not of " + got,
                got.equals(List.of(m.group(1).replaceAll("[`,]", "").trim().split(" "))));
        }
        rule("five headings", headings == 5);
    }

    private static List<Class<?>> all() {
        java.util.ArrayList<Class<?>> all = new java.util.ArrayList<>(List.of(TakenUp.class));
        all.addAll(List.of(TakenUp.class.getDeclaredClasses()));
        return all;
    }

    /** Rules 2, 3, 5, 11. */
    private static void classes() {
        rule("at most 12 classes", all().size() <= 12);
        for (Class<?> c : all()) {
            rule(c + " has no class inside", c == TakenUp.class || c.getDeclaredClasses().length == 0);
            rule(c + " is static", c == TakenUp.class || Modifier.isStatic(c.getModifiers()));
            int fields = 0;
            for (Field field : c.getDeclaredFields()) {
                int is = field.getModifiers();
                rule(field + " is private", Modifier.isPrivate(is));
                if (Modifier.isStatic(is)) {
                    rule(field + " is a constant", Modifier.isFinal(is) && CONSTANTS.contains(field.getType()));
                } else {
                    fields++;
                }
            }
            rule(c + " has at most 20 fields", fields <= 20);
        }
    }

    /** Rules 2, 4, 6. */
    private static void words(String code) {
        for (String word : List.of("import", "package", "throw", "throws", "try", "catch", "finally", "synchronized",
            "assert", "instanceof", "double", "float", "var", "record", "volatile", "native", "equals", "hashCode",
            "toString", "Object", "Thread", "static \\{")) {
            rule("no " + word, !Pattern.compile("\\b" + word + (word.endsWith("{") ? "" : "\\b")).matcher(code).find());
        }
        for (String sign : List.of("->", "::", "@", "\"\" +", "+ \"\"")) {
            rule("no " + sign, !code.contains(sign));
        }
    }

    private static void library(String code) {
        Matcher m = Pattern.compile("\\b([A-Z]\\w*[a-z]\\w*)\\.(\\w+)\\(").matcher(code);
        while (m.find()) {
            rule("the library has " + m.group(), LIBRARY.contains(m.group(1) + "." + m.group(2)));
        }
        Matcher made = Pattern.compile("\\bnew (\\w+)").matcher(code);
        while (made.find()) {
            rule("new " + made.group(1), Set.of("int", "World", "Worker", "Rest", "Law", "Reader", "Sheet", "Speaker")
                .contains(made.group(1)));
        }
    }

    /** Rule 11: methods stay short. */
    private static void methods(String code) {
        String[] lines = code.split("\n");
        int from = 0;
        for (int i = 0; i < lines.length; i++) {
            if (lines[i].matches(" {4}(?: {4})?(public|private) [^=;]*\\) \\{")) {
                from = i;
            }
            if (lines[i].matches(" {4}(?: {4})?\\}")) {
                rule("a method of " + (i - from + 1) + " lines: " + lines[from].trim(),
                    i - from + 1 <= 60 || lines[from].contains(" class "));
            }
        }
    }
}
