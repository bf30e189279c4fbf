import java.io.IOException;
import java.lang.reflect.Method;
import java.lang.reflect.Modifier;
import java.nio.file.Files;
import java.nio.file.Path;
import java.util.HashMap;
import java.util.List;
import java.util.Map;
import java.util.regex.Matcher;
import java.util.regex.Pattern;

/** What README.md says of the calls: they are made as it shows them. Run from the project's root. */
public final class ReadmeTest {
    private static final Pattern CALL = Pattern.compile("x\\.(\\w+)\\(([^)]*)\\); +// (-?\\d+): .+");
    private static final Pattern TEXT = Pattern.compile("for \\(char letter : \"([^\"]*)\"\\.toCharArray\\(\\)\\) \\{");
    private static final Pattern REST_OF_FEEDING = Pattern.compile(" +x\\.feed\\(letter\\);|}");

    private final Dues dues = new Dues();
    private final Map<String, Method> face = new HashMap<>();
    private BoxedHeirs x = new BoxedHeirs();
    private int calls;

    public static void main(String[] args) throws Exception {
        ReadmeTest test = new ReadmeTest();
        List<String> page = Files.readAllLines(Path.of("README.md"));
        test.examples(page);
        test.namesAllCalls(String.join("\n", page));
        test.namesAllTests(String.join("\n", page));
        test.dues.end();
    }

    private ReadmeTest() {
        for (Method m : BoxedHeirs.class.getDeclaredMethods()) {
            if (Modifier.isPublic(m.getModifiers())) {
                face.put(m.getName(), m);
            }
        }
    }

    private void examples(List<String> page) throws ReflectiveOperationException {
        boolean isCode = false;
        for (String line : page) {
            if (line.startsWith("```")) {
                isCode = line.equals("```java");
            } else if (isCode) {
                example(line);
            }
        }
        dues.due("there are calls in README.md", calls > 0 ? 1 : 0, 1);
    }

    private void example(String line) throws ReflectiveOperationException {
        Matcher call = CALL.matcher(line);
        Matcher text = TEXT.matcher(line);
        if (call.matches()) {
            calls++;
            dues.due(line, answer(call.group(1), call.group(2)), Integer.parseInt(call.group(3)));
        } else if (text.matches()) {
            Dues.feedAll(x, text.group(1));
        } else if (line.equals("BoxedHeirs x = new BoxedHeirs();")) {
            x = new BoxedHeirs();
        } else {
            dues.due("can be followed: " + line, REST_OF_FEEDING.matcher(line).matches() ? 1 : 0, 1);
        }
    }

    private int answer(String name, String given) throws ReflectiveOperationException {
        Method m = face.get(name);
        String[] parts = given.isEmpty() ? new String[0] : given.split(", ");
        if (m == null || m.getParameterCount() != parts.length) {
            return Integer.MIN_VALUE;
        }
        Object[] values = new Object[parts.length];
        for (int i = 0; i < parts.length; i++) {
            boolean isNumber = m.getParameterTypes()[i] == int.class;
            values[i] = isNumber ? (Object) Integer.valueOf(parts[i]) : (Object) Boolean.valueOf(parts[i]);
        }
        return (Integer) m.invoke(x, values);
    }

    private void namesAllCalls(String page) {
        for (String name : face.keySet()) {
            dues.due("README.md names " + name, page.contains("`" + name + "`") ? 1 : 0, 1);
        }
    }

    private void namesAllTests(String page) throws IOException {
        try (var files = Files.list(Path.of("src/test/java"))) {
            for (Path file : files.toList()) {
                String name = file.getFileName().toString().replace(".java", "");
                dues.due("README.md names " + name, page.contains("`" + name + "`") ? 1 : 0, 1);
            }
        }
    }
}
