import java.io.IOException;
import java.lang.reflect.Constructor;
import java.lang.reflect.Field;
import java.lang.reflect.Method;
import java.lang.reflect.Modifier;
import java.nio.file.Files;
import java.nio.file.Path;
import java.util.Arrays;
import java.util.HashSet;
import java.util.List;
import java.util.Set;
import java.util.TreeSet;
import java.util.regex.Pattern;

/** The public face of the class, and what of LANGUAGE.md can be seen from its text. */
public final class FaceTest {
    private static final Path SOURCE = Path.of("src/main/java/RollingSync.java");
    private static final Set<String> FACE = Set.of(
        "int write(int,int,int,long,int)", "int again(int,int,int,int)", "int trim(int,int,int)",
        "int drop(int,int)", "int same(int,int)", "int at(int,int,int)", "int size(int,int)",
        "long node(int,int)", "int begin(int,int,int,int)", "int step(int)", "int lose(int)",
        "int cut()", "int state(int)", "long sent(int)", "int built(int)", "long sums(int,int)",
        "long weak(int,int,int,int)");
    private static final List<String> RULED_OUT = List.of(
        "\\bthrow\\b", "\\btry\\b", "\\bcatch\\b", "\\bsynchronized\\b", "\\bassert\\b", "->", "::",
        "\\bpackage\\b", "Exact\\b", "\\bSystem\\.(?!arraycopy)", "\\bjava\\.");
    /** What the text may have of the above: the library's lists, and the arrows of a switch. */
    private static final String ALLOWED =
        "import java\\.util\\.(ArrayList|List|Arrays|Iterator);|(\\bcase [^:;{}]*?|\\bdefault )->";
    private static final Check check = new Check("FaceTest");

    private FaceTest() {
    }

    public static void main(String[] args) throws IOException {
        constants();
        members();
        nestedClasses();
        text();
        check.finish();
    }

    private static void constants() {
        check.due("BAD", RollingSync.BAD, -1);
        check.due("NO", RollingSync.NO, -2);
        check.due("FULL", RollingSync.FULL, -3);
    }

    private static void members() {
        Class<?> face = RollingSync.class;
        check.holds("public and final", face.getModifiers() == (Modifier.PUBLIC | Modifier.FINAL));
        Set<String> open = new TreeSet<>();
        Set<String> names = new HashSet<>();
        for (Method method : face.getDeclaredMethods()) {
            if (!Modifier.isPrivate(method.getModifiers())) {
                check.due(method + " is public alone", method.getModifiers(), Modifier.PUBLIC);
                open.add(signature(method));
                names.add(method.getName());
            }
        }
        check.holds("methods " + open, open.equals(new TreeSet<>(FACE)));
        for (Method method : face.getDeclaredMethods()) {
            boolean hidden = Modifier.isPrivate(method.getModifiers());
            check.holds(method + " has its own name", !hidden || !names.contains(method.getName()));
        }
        Set<String> fields = new TreeSet<>();
        for (Field field : face.getDeclaredFields()) {
            boolean isStatic = Modifier.isStatic(field.getModifiers());
            check.holds(field + " is no static state",
                !isStatic || Modifier.isFinal(field.getModifiers()));
            if (!Modifier.isPrivate(field.getModifiers())) {
                fields.add(field.getName());
            }
        }
        check.holds("fields " + fields, fields.equals(Set.of("BAD", "FULL", "NO")));
        Constructor<?>[] constructors = face.getDeclaredConstructors();
        check.due("constructors", constructors.length, 1);
        check.due("its parameters", constructors[0].getParameterCount(), 0);
        check.due("it is public", constructors[0].getModifiers(), Modifier.PUBLIC);
    }

    private static String signature(Method method) {
        String parameters = String.join(",",
            Arrays.stream(method.getParameterTypes()).map(Class::getName).toList());
        return method.getReturnType() + " " + method.getName() + "(" + parameters + ")";
    }

    private static void nestedClasses() {
        Class<?>[] nested = RollingSync.class.getDeclaredClasses();
        check.holds("at most some twelve classes", nested.length <= 12);
        for (Class<?> inside : nested) {
            check.holds(inside + " is static", Modifier.isStatic(inside.getModifiers()));
            check.holds(inside + " is not public", !Modifier.isPublic(inside.getModifiers()));
            int fields = inside.getDeclaredFields().length;
            check.holds(inside + " has some twenty fields", fields <= 24);
            for (Method method : inside.getDeclaredMethods()) {
                check.holds(method + " has few parameters", method.getParameterCount() <= 7);
                boolean hidden = Modifier.isPrivate(method.getModifiers());
                String called = " " + method.getName() + "(";
                check.holds(method + " has its own name",
                    !hidden || FACE.stream().noneMatch(told -> told.contains(called)));
            }
        }
    }

    private static void text() throws IOException {
        String code = Files.readString(SOURCE)
            .replaceAll("(?s)/\\*.*?\\*/", "")
            .replaceAll("//[^\n]*", "")
            .replaceAll(ALLOWED, "");
        for (String part : RULED_OUT) {
            check.holds("no " + part, !Pattern.compile(part).matcher(code).find());
        }
    }
}
