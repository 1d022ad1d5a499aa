import java.io.IOException;
import java.lang.reflect.Constructor;
import java.lang.reflect.Executable;
import java.lang.reflect.Field;
import java.lang.reflect.Method;
import java.lang.reflect.Modifier;
import java.nio.file.Files;
import java.nio.file.Path;
import java.nio.file.Paths;
import java.util.ArrayList;
import java.util.List;
import java.util.regex.Matcher;
import java.util.regex.Pattern;

/** Those rules of LANGUAGE.md that can be looked up in the text of the class, or in the class itself. */
public final class LanguageTest {
    private static final String[] NOT_IN_IT = {
        "^package\\b", "^(?!\\s*(case|default)\\b).*->", "::", "\\bfinally\\b", "\\bsynchronized\\b", "\\bassert\\b",
        "\\bstatic \\{", "\\w+Exact\\b", "\\bSystem\\.(?!arraycopy)", "\\bThread\\b", "\\bMAX_VALUE\\b", "\\bMIN_VALUE\\b",
        "\\bString\\.", "\\bRandom\\b", "\\bhashCode\\b", "\\bclone\\(\\w",
        "\\bcatch \\((Exception|Throwable|Error|NullPointer|ArrayIndex|ClassCast|NegativeArray|ArrayStore)"};
    private static final List<String> IMPORTS = List.of("java.util.Arrays", "java.util.ArrayList", "java.util.Iterator",
        "java.util.List", "java.util.NoSuchElementException");

    private LanguageTest() {
    }

    public static void main(String[] args) throws IOException {
        Path source = Paths.get(System.getProperty("source", "src/main/java/HeatedCode.java"));
        List<String> lines = withoutComments(Files.readAllLines(source));
        for (String bit : NOT_IN_IT) {
            Pattern pattern = Pattern.compile(bit);
            for (String line : lines) {
                Due.is("no " + bit + " in: " + line, pattern.matcher(line).find() ? 1 : 0, 0);
            }
        }
        imports(lines);
        lengths(lines);
        classes();
        Due.end("LanguageTest");
    }

    private static List<String> withoutComments(List<String> lines) {
        List<String> all = new ArrayList<>();
        for (String line : lines) {
            String text = line.strip();
            boolean comment = text.startsWith("//") || text.startsWith("*") || text.startsWith("/*");
            all.add(comment ? "" : line);
        }
        return all;
    }

    private static void imports(List<String> lines) {
        for (String line : lines) {
            if (line.startsWith("import ")) {
                Due.is(line, IMPORTS.contains(line.substring(7, line.length() - 1)) ? 1 : 0, 1);
            }
        }
    }

    /** A method's lines, from its head on to the bracket that ends it, as it is set in. */
    private static void lengths(List<String> lines) {
        Pattern head = Pattern.compile("^( +)(?!return|else|new|throw)[\\w\\[\\]<>]+ .*\\(.*\\).*\\{$");
        for (int k = 0; k < lines.size(); k++) {
            Matcher matcher = head.matcher(lines.get(k));
            if (!matcher.matches() || lines.get(k).matches(" +(if|for|while|switch|\\}).*")) {
                continue;
            }
            int end = k;
            while (end < lines.size() && !lines.get(end).equals(matcher.group(1) + "}")) {
                end++;
            }
            Due.is("60 lines at most: " + lines.get(k).strip(), end - k < 60 ? 1 : 0, 1);
        }
    }

    private static void classes() {
        Class<?>[] inside = HeatedCode.class.getDeclaredClasses();
        Due.is("some twelve classes", inside.length <= 12 ? 1 : 0, 1);
        look(HeatedCode.class);
        for (Class<?> one : inside) {
            look(one);
        }
    }

    private static void look(Class<?> one) {
        int fields = 0;
        for (Field field : one.getDeclaredFields()) {
            boolean isStatic = Modifier.isStatic(field.getModifiers());
            fields += isStatic ? 0 : 1;
            boolean fits = !isStatic || Modifier.isFinal(field.getModifiers());
            Due.is("a static one is final: " + field, fits ? 1 : 0, 1);
        }
        Due.is("fields of " + one, fields <= 20 ? 1 : 0, 1);
        for (Method method : one.getDeclaredMethods()) {
            few(method);
        }
        for (Constructor<?> constructor : one.getDeclaredConstructors()) {
            few(constructor);
        }
    }

    private static void few(Executable called) {
        Due.is("parameters of " + called, called.getParameterCount() <= 7 ? 1 : 0, 1);
    }
}
