import java.io.IOException;
import java.lang.reflect.Method;
import java.lang.reflect.Modifier;
import java.nio.charset.StandardCharsets;
import java.nio.file.Files;
import java.nio.file.Path;
import java.util.List;
import java.util.regex.Matcher;
import java.util.regex.Pattern;

/** README.md tells what is so: its example, its lists of calls, of findings and of tests. */
public final class ReadmeTest {
    private static final Due DUE = new Due();
    private static final Pattern CALL = Pattern.compile("x\\.(\\w+)\\(([^()]*)\\);\\s+// (-?\\d+)(:.*)?");
    private static final List<String> FINDINGS =
        List.of("BEYOND", "FULL", "KIND", "NONE", "STATE", "MISSING", "SIZE");

    public static void main(String[] args) throws IOException, ReflectiveOperationException {
        List<String> lines = Files.readAllLines(Path.of("README.md"), StandardCharsets.UTF_8);
        theExample(lines);
        theCalls(lines);
        theFindings(lines);
        theTests(lines);
        DUE.end();
    }

    private static void theExample(List<String> lines) throws ReflectiveOperationException {
        int from = lines.indexOf("```java");
        DUE.holds("there is an example", from >= 0);
        DUE.is("its first line makes an object", lines.indexOf("NotedHouse x = new NotedHouse();"), from + 1);
        NotedHouse x = new NotedHouse();
        int calls = 0;
        for (int i = from + 2; i < lines.size() && !lines.get(i).equals("```"); i++) {
            String line = lines.get(i);
            if (!line.isEmpty() && !line.startsWith("// ")) {
                ask(x, line);
                calls++;
            }
        }
        DUE.holds("it has calls", calls > 30);
    }

    private static void ask(NotedHouse x, String line) throws ReflectiveOperationException {
        Matcher call = CALL.matcher(line);
        DUE.holds("a call and its answer: " + line, call.matches());
        if (call.matches()) {
            Method method = named(call.group(1));
            String[] told = call.group(2).isEmpty() ? new String[0] : call.group(2).split(", ");
            DUE.is(line + ": arguments", told.length, method.getParameterCount());
            Object[] arguments = new Object[told.length];
            for (int i = 0; i < told.length; i++) {
                boolean isLong = method.getParameterTypes()[i] == long.class;
                arguments[i] = isLong ? (Object) Long.decode(told[i].replace("L", "")) : Integer.decode(told[i]);
            }
            DUE.is(line, ((Number) method.invoke(x, arguments)).longValue(), Long.parseLong(call.group(3)));
        }
    }

    private static Method named(String name) throws NoSuchMethodException {
        for (Method method : NotedHouse.class.getDeclaredMethods()) {
            if (method.getName().equals(name) && Modifier.isPublic(method.getModifiers())) {
                return method;
            }
        }
        throw new NoSuchMethodException(name);
    }

    private static void theCalls(List<String> lines) {
        for (Method method : NotedHouse.class.getDeclaredMethods()) {
            if (Modifier.isPublic(method.getModifiers())) {
                int n = method.getParameterCount();
                String arguments = n == 0 ? "" : "\\w+(, \\w+){" + (n - 1) + "}";
                String row = "\\| `" + method.getName() + "\\(" + arguments + "\\)` \\| .+ \\|";
                DUE.is("rows of " + method.getName(), lines.stream().filter(line -> line.matches(row)).count(), 1);
            }
        }
    }

    private static void theFindings(List<String> lines) {
        for (int i = 0; i < FINDINGS.size(); i++) {
            String row = "| " + (Due.BEYOND - i) + " | " + FINDINGS.get(i) + " | " + i + " | ";
            DUE.holds("a row " + row, lines.stream().anyMatch(line -> line.startsWith(row)));
        }
    }

    private static void theTests(List<String> lines) throws IOException {
        DUE.holds("how the tests are run", lines.contains("    bash .ci/run"));
        try (var files = Files.list(Path.of("src/test/java"))) {
            List<String> tests = files.map(file -> file.getFileName().toString())
                .filter(name -> name.endsWith("Test.java")).map(name -> name.replace(".java", "")).toList();
            for (String test : tests) {
                DUE.holds(test + " has a row", lines.stream().anyMatch(line -> line.startsWith("| " + test + " | ")));
            }
        }
    }
}
