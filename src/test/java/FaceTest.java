import java.lang.reflect.Field;
import java.lang.reflect.Method;
import java.lang.reflect.Modifier;
import java.util.Arrays;
import java.util.HashSet;
import java.util.Set;

/** The public face is the document's, and nothing more of the class is to be seen from outside. */
public final class FaceTest {
    private static final String[] FACE = {
        "int feed(int,int,int,int,int)", "int program(int) IllegalArgumentException", "int fault()",
        "void give(int,int,long) IllegalArgumentException", "int run(int) NoSuchElementException",
        "int runs(int,int) NoSuchElementException,IllegalArgumentException",
        "int glow(int) IllegalArgumentException", "int patience(int) IllegalArgumentException",
        "int cool(int) NoSuchElementException", "int forget(int) NoSuchElementException", "int clear()",
        "int told(int) IllegalArgumentException", "int latest(int) IllegalArgumentException", "long value()",
        "int cost()", "long costs()", "long given(int,int) IllegalArgumentException",
        "int function(int,int) NoSuchElementException,IllegalArgumentException",
        "int place(int,int) NoSuchElementException,IllegalArgumentException", "int notes()",
        "int note(int,int) NoSuchElementException,IllegalArgumentException",
        "int kind(int,int) NoSuchElementException,IllegalArgumentException",
        "long number(int,int) NoSuchElementException,IllegalArgumentException",
        "int plain(int,int) NoSuchElementException,IllegalArgumentException",
        "long plainly(int) NoSuchElementException", "int often(int,int) NoSuchElementException",
        "int pairs(int,int) NoSuchElementException",
        "int ahead(int,int,int) NoSuchElementException,IllegalArgumentException",
        "int pays(int) NoSuchElementException",
        "int tune(int,int,int) NoSuchElementException,IllegalArgumentException",
        "int bear(int,int,int) NoSuchElementException,IllegalArgumentException",
        "int sorest(int,int,int) NoSuchElementException,IllegalArgumentException",
        "int until(int) NoSuchElementException", "int status(int)"};

    private FaceTest() {
    }

    public static void main(String[] args) throws Exception {
        Set<String> due = new HashSet<>(Arrays.asList(FACE));
        Set<String> names = new HashSet<>();
        for (Method method : HeatedCode.class.getDeclaredMethods()) {
            if (Modifier.isPrivate(method.getModifiers()) || method.isSynthetic()) {
                continue;
            }
            names.add(method.getName());
            Due.is("public " + told(method), Modifier.isPublic(method.getModifiers()) ? 1 : 0, 1);
            Due.is("in the document: " + told(method), due.remove(told(method)) ? 1 : 0, 1);
        }
        Due.is("missing: " + due, due.size(), 0);
        Due.is("a final class", Modifier.isFinal(HeatedCode.class.getModifiers()) ? 1 : 0, 1);
        Due.is("constructors", HeatedCode.class.getConstructors().length, 1);
        Due.is("NONE", HeatedCode.NONE, -1);
        hidden(names);
        Due.end("FaceTest");
    }

    /** Fields are private but for NONE, classes inside are no part of the face, no private method bears a public name. */
    private static void hidden(Set<String> names) {
        for (Field field : HeatedCode.class.getDeclaredFields()) {
            boolean isPrivate = Modifier.isPrivate(field.getModifiers());
            Due.is("private: " + field.getName(), isPrivate || field.getName().equals("NONE") ? 1 : 0, 1);
        }
        notNamedSo(HeatedCode.class, names);
        for (Class<?> inside : HeatedCode.class.getDeclaredClasses()) {
            boolean isSeen = Modifier.isPublic(inside.getModifiers()) || Modifier.isProtected(inside.getModifiers());
            Due.is("not of the face: " + inside.getName(), isSeen ? 1 : 0, 0);
            notNamedSo(inside, names);
        }
    }

    private static void notNamedSo(Class<?> one, Set<String> names) {
        for (Method method : one.getDeclaredMethods()) {
            boolean bears = Modifier.isPrivate(method.getModifiers()) && names.contains(method.getName());
            Due.is("a name of its own: " + method.getName(), bears ? 1 : 0, 0);
        }
    }

    private static String told(Method method) {
        StringBuilder text = new StringBuilder(method.getReturnType().getName() + " " + method.getName() + "(");
        for (Class<?> parameter : method.getParameterTypes()) {
            text.append(text.charAt(text.length() - 1) == '(' ? "" : ",").append(parameter.getName());
        }
        text.append(")");
        char between = ' ';
        for (Class<?> thrown : method.getExceptionTypes()) {
            text.append(between).append(thrown.getSimpleName());
            between = ',';
        }
        return text.toString();
    }
}
