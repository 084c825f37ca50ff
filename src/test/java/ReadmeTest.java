import java.io.IOException;
import java.lang.reflect.Method;
import java.lang.reflect.Modifier;
import java.nio.file.Files;
import java.nio.file.Path;
import java.util.List;
import java.util.Set;
import java.util.TreeSet;
import java.util.regex.Matcher;
import java.util.regex.Pattern;
import java.util.stream.Collectors;
import java.util.stream.Stream;

/** README.md beside the class and its tests as they stand; run from the project's folder. */
public final class ReadmeTest {
    private static final Pattern CALL =
            Pattern.compile(" {4}log\\.(\\w+)\\(([-0-9, ]*)\\);\\s*// (-?[0-9]+|[A-Z_]+)(:.*)?");
    private static final Pattern TYPED = Pattern.compile(" {4}for \\(char sign : \"(.*)\"\\.toCharArray\\(\\)\\) \\{");
    private static final String MADE = "    LiningLog log = new LiningLog();";

    private ReadmeTest() {
    }

    public static void main(String[] args) throws IOException, ReflectiveOperationException {
        Due.about("README.md says how to use the class and how to run its tests");
        List<String> lines = Files.readAllLines(Path.of("README.md"));
        examples(lines);
        callsOfTheTable(lines);
        testsOfTheTable(lines);
        Due.end("ReadmeTest");
    }

    private static void examples(List<String> lines) throws ReflectiveOperationException {
        LiningLog log = null;
        int calls = 0;
        int told = 0;
        for (String line : lines) {
            Matcher typed = TYPED.matcher(line);
            Matcher call = CALL.matcher(line);
            told += line.startsWith("    log.") ? 1 : 0;
            if (line.equals(MADE)) {
                log = new LiningLog();
            } else if (typed.matches()) {
                Due.type(log, typed.group(1));
            } else if (call.matches()) {
                Due.same(line.trim(), answer(log, call.group(1), call.group(2)), due(call.group(3)));
                calls++;
            }
        }
        Due.same("examples whose answers were looked at", calls, told);
        Due.same("there are examples", calls > 10 ? 1 : 0, 1);
    }

    private static int answer(LiningLog log, String name, String arguments) throws ReflectiveOperationException {
        String[] told = arguments.isBlank() ? new String[0] : arguments.split(", ");
        Class<?>[] types = new Class<?>[told.length];
        Object[] values = new Object[told.length];
        for (int at = 0; at < told.length; at++) {
            types[at] = int.class;
            values[at] = Integer.valueOf(told[at]);
        }
        return (Integer) LiningLog.class.getMethod(name, types).invoke(log, values);
    }

    private static int due(String told) throws ReflectiveOperationException {
        return Character.isUpperCase(told.charAt(0))
                ? LiningLog.class.getField(told).getInt(null) : Integer.parseInt(told);
    }

    /** What stands in the first column of the tables, and fits. */
    private static Set<String> named(List<String> lines, String fitting) {
        Set<String> names = new TreeSet<>();
        for (String line : lines) {
            if (line.startsWith("| `")) {
                Matcher name = Pattern.compile(fitting).matcher(line.substring(0, line.indexOf(" | ")));
                while (name.find()) {
                    names.add(name.group(1));
                }
            }
        }
        return names;
    }

    private static void callsOfTheTable(List<String> lines) {
        Set<String> due = new TreeSet<>();
        for (Method method : LiningLog.class.getDeclaredMethods()) {
            if (Modifier.isPublic(method.getModifiers())) {
                due.add(method.getName() + "/" + method.getParameterCount());
            }
        }
        Set<String> told = new TreeSet<>();
        for (String call : named(lines, "`(\\w+\\([^)]*\\))`")) {
            int open = call.indexOf('(');
            String arguments = call.substring(open + 1, call.length() - 1);
            told.add(call.substring(0, open) + "/" + (arguments.isEmpty() ? 0 : arguments.split(",").length));
        }
        Due.same("calls of the table", told.toString(), due.toString());
    }

    private static void testsOfTheTable(List<String> lines) throws IOException {
        try (Stream<Path> files = Files.list(Path.of("src/test/java"))) {
            Set<String> due = files.map(file -> file.getFileName().toString())
                    .filter(name -> name.endsWith("Test.java"))
                    .map(name -> name.substring(0, name.length() - ".java".length()))
                    .collect(Collectors.toCollection(TreeSet::new));
            Due.same("tests of the table", named(lines, "`(\\w+Test)`").toString(), due.toString());
        }
    }
}
