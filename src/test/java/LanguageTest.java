import java.io.IOException;
import java.lang.reflect.Constructor;
import java.lang.reflect.Executable;
import java.lang.reflect.Field;
import java.lang.reflect.Method;
import java.lang.reflect.Modifier;
import java.nio.file.Files;
import java.nio.file.Path;
import java.util.ArrayList;
import java.util.Arrays;
import java.util.List;
import java.util.Set;
import java.util.TreeSet;
import java.util.regex.Pattern;

/** What of the rules for the program's Java can be seen from outside and in its lines. */
public final class LanguageTest {
    private static final Path SOURCE = Path.of("src/main/java/ExampleTables.java");
    private static final String NO = "no";
    private static final String ELEMENT = " NoSuchElementException";
    private static final String ARGUMENT = " IllegalArgumentException";
    private static final String[] FACE = {
        "int feed 5", "int table 1" + ARGUMENT, "int program 2" + ELEMENT + ARGUMENT, "int fault 0",
        "int about 2" + ELEMENT, "int answer 3" + ELEMENT, "int value 3" + ELEMENT, "int hole 2" + ELEMENT,
        "int quarrel 3" + ELEMENT, "boolean idle 2" + ELEMENT, "int term 3" + ELEMENT, "int offered 3" + ELEMENT,
        "int tell 1" + ELEMENT, "int told 1" + ELEMENT, "int run 2" + ELEMENT, "int fails 2" + ELEMENT,
        "int failing 2" + ELEMENT, "int changed 3" + ELEMENT + ARGUMENT, "int count 1" + ELEMENT};

    private LanguageTest() {
    }

    public static void main(String[] args) throws IOException {
        face();
        classes();
        lines(Files.readString(SOURCE));
        Check.end();
    }

    private static void face() {
        Set<String> seen = new TreeSet<>();
        for (Method method : ExampleTables.class.getDeclaredMethods()) {
            if (Modifier.isPublic(method.getModifiers())) {
                seen.add(described(method));
            } else {
                Check.due("private: " + method, true, () -> Modifier.isPrivate(method.getModifiers()));
            }
        }
        Check.due("the face", new TreeSet<>(Arrays.asList(FACE)), () -> seen);
        Check.due("public final", true, () -> Modifier.isFinal(ExampleTables.class.getModifiers()));
        Constructor<?>[] constructors = ExampleTables.class.getDeclaredConstructors();
        Check.due("constructors", 1, () -> constructors.length);
        Check.due("constructor's parameters", 0, () -> constructors[0].getParameterCount());
        for (Field field : ExampleTables.class.getDeclaredFields()) {
            boolean open = field.getName().equals("NONE");
            Check.due("field " + field.getName(), open, () -> !Modifier.isPrivate(field.getModifiers()));
        }
    }

    private static String described(Method method) {
        StringBuilder text = new StringBuilder(method.getReturnType() + " " + method.getName());
        text.append(" ").append(method.getParameterCount());
        for (Class<?> thrown : method.getExceptionTypes()) {
            text.append(" ").append(thrown.getSimpleName());
        }
        return text.toString();
    }

    private static void classes() {
        List<Class<?>> all = new ArrayList<>(Arrays.asList(ExampleTables.class.getDeclaredClasses()));
        for (Class<?> inside : all) {
            int flags = inside.getModifiers();
            Check.due("static: " + inside, true, () -> Modifier.isStatic(flags));
            Check.due("hidden: " + inside, true, () -> !Modifier.isPublic(flags) && !Modifier.isProtected(flags));
        }
        all.add(ExampleTables.class);
        Check.due("at most twelve classes", true, () -> all.size() <= 12);
        Set<String> names = new TreeSet<>();
        for (String method : FACE) {
            names.add(method.split(" ")[1]);
        }
        for (Class<?> one : all) {
            members(one, names);
        }
    }

    private static void members(Class<?> one, Set<String> names) {
        List<Executable> all = new ArrayList<>(Arrays.asList(one.getDeclaredMethods()));
        all.addAll(Arrays.asList(one.getDeclaredConstructors()));
        for (Executable each : all) {
            Check.due("at most seven parameters: " + each, true, () -> each.getParameterCount() <= 7);
            boolean ofFace = one == ExampleTables.class && Modifier.isPublic(each.getModifiers());
            Check.due("its own name: " + each, true, () -> ofFace || !names.contains(each.getName()));
        }
        int fields = 0;
        for (Field field : one.getDeclaredFields()) {
            boolean isStatic = Modifier.isStatic(field.getModifiers());
            fields += isStatic ? 0 : 1;
            Check.due("final if static: " + field, true, () -> !isStatic || Modifier.isFinal(field.getModifiers()));
        }
        int sum = fields;
        Check.due("at most twenty fields: " + one, true, () -> sum <= 20);
    }

    private static void lines(String source) {
        String bare = source.replaceAll("(?s)/\\*.*?\\*/", "").replaceAll("//[^\n]*", "")
            .replaceAll("\"[^\"\n]*\"", "\"\"").replaceAll("'(\\\\.|[^'])'", "' '");
        String[] refused = {"->", "::", "\\bcatch\\b", "\\btry\\b", "\\bfinally\\b", "\\bsynchronized\\b",
            "\\bassert\\b", "\\bpackage\\b", "\\bSystem\\.(?!arraycopy)", "\\bThread\\b", "\\bequals\\b", "Exact\\b",
            "\\bgetMessage\\b", "\\bprotected\\b", "\" *\\+", "\\+ *\"", "import (?!java\\.util\\.NoSuchElementException;)"};
        for (String each : refused) {
            Check.due("in the source: " + each, NO, () -> Pattern.compile(each).matcher(bare).find() ? "yes" : NO);
        }
        for (int i = 0; i < source.length(); i++) {
            char sign = source.charAt(i);
            int at = i;
            if (sign > 126 || sign < 32 && sign != 10) {
                Check.due("sign at " + at, "plain", () -> (int) sign);
            }
        }
    }
}
