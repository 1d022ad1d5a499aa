import java.io.IOException;
import java.lang.reflect.InvocationTargetException;
import java.lang.reflect.Method;
import java.nio.file.Files;
import java.nio.file.Path;
import java.nio.file.Paths;
import java.util.HashSet;
import java.util.List;
import java.util.Set;
import java.util.regex.Matcher;
import java.util.regex.Pattern;

/** README.md: its example is called line by line, and answers what stands behind "//"; it names each call of the face. */
public final class ReadmeTest {
    private static final Pattern CALL = Pattern.compile("code\\.(\\w+)\\(([^)]*)\\);\\s*// (-?\\d+)?.*");

    private ReadmeTest() {
    }

    public static void main(String[] args) throws Exception {
        Path path = Paths.get(System.getProperty("readme", "README.md"));
        List<String> lines = Files.readAllLines(path);
        example(lines);
        namesEachCall(String.join("\n", lines));
        Due.end("ReadmeTest");
    }

    private static void example(List<String> lines) throws IOException, ReflectiveOperationException {
        int first = lines.indexOf("```java") + 1;
        Due.is("there is an example", first > 0 ? 1 : 0, 1);
        Due.is("it begins with", lines.get(first).startsWith("HeatedCode code = new HeatedCode();") ? 1 : 0, 1);
        HeatedCode code = new HeatedCode();
        int called = 0;
        for (int k = first + 1; !lines.get(k).equals("```"); k++) {
            Matcher line = CALL.matcher(lines.get(k));
            Due.is("a line of the example: " + lines.get(k), line.matches() ? 1 : 0, 1);
            if (line.matches()) {
                called++;
                answers(code, line);
            }
        }
        Due.is("calls of the example", called > 20 ? 1 : 0, 1);
    }

    private static void answers(HeatedCode code, Matcher line) throws ReflectiveOperationException {
        Method method = methodNamed(line.group(1));
        Class<?>[] types = method.getParameterTypes();
        String[] words = line.group(2).isBlank() ? new String[0] : line.group(2).split(", ");
        Due.is("arguments of " + line.group(), words.length, types.length);
        Object[] arguments = new Object[types.length];
        for (int k = 0; k < types.length; k++) {
            long number = Long.decode(words[k]);
            if (types[k] == int.class) {
                arguments[k] = (int) number;
            } else {
                arguments[k] = number;
            }
        }
        try {
            Object answer = method.invoke(code, arguments);
            if (answer != null) {
                Due.is("README.md: " + line.group(), ((Number) answer).longValue(), Long.parseLong(line.group(3)));
            }
        } catch (InvocationTargetException e) {
            Due.is("README.md: " + line.group() + " threw " + e.getCause(), 1, 0);
        }
    }

    private static Method methodNamed(String name) throws NoSuchMethodException {
        for (Method method : HeatedCode.class.getMethods()) {
            if (method.getName().equals(name)) {
                return method;
            }
        }
        throw new NoSuchMethodException(name);
    }

    private static void namesEachCall(String readme) {
        Set<String> named = new HashSet<>();
        Matcher marked = Pattern.compile("`(\\w+)`").matcher(readme);
        while (marked.find()) {
            named.add(marked.group(1));
        }
        for (Method method : HeatedCode.class.getDeclaredMethods()) {
            if (java.lang.reflect.Modifier.isPublic(method.getModifiers())) {
                Due.is("README.md names " + method.getName(), named.contains(method.getName()) ? 1 : 0, 1);
            }
        }
    }
}
