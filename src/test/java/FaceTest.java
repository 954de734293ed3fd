import java.io.IOException;
import java.lang.reflect.Constructor;
import java.lang.reflect.Field;
import java.lang.reflect.Method;
import java.lang.reflect.Modifier;
import java.nio.file.Files;
import java.nio.file.Path;
import java.util.Arrays;
import java.util.Set;
import java.util.TreeSet;
import java.util.stream.Collectors;

/** "The public face" of the document, line by line, against the class's members: all of it, and no other that can be seen. */
public final class FaceTest {
    private static final Due DUE = new Due();

    public static void main(String[] args) throws IOException, ReflectiveOperationException {
        DUE.about("the public face");
        Set<String> due = asked(Files.readString(Path.of("../shared/DOC.md")));
        Set<String> there = seen();
        DUE.is("lines of the face", due.size(), 46);
        for (String line : due) {
            DUE.is("there is: " + line, there.contains(line) ? 1 : 0, 1);
        }
        for (String line : there) {
            DUE.is("asked for is: " + line, due.contains(line) ? 1 : 0, 1);
        }
        DUE.is("public and final", NonsenseRows.class.getModifiers(), Modifier.PUBLIC | Modifier.FINAL);
        DUE.is("NONE", NonsenseRows.class.getField("NONE").getInt(null), -1);
        inside();
        DUE.end("FaceTest");
    }

    /** Each line of the face without the names of what is given, and of the constant without its number. */
    private static Set<String> asked(String document) {
        int start = document.indexOf("public final class NonsenseRows {");
        String face = document.substring(start, document.indexOf("\n}", start));
        return face.lines().skip(1).map(line -> line.strip().replaceAll(" = -?\\d+;|;", "").replaceAll("(\\w+) \\w+(?=[,)])", "$1"))
            .collect(Collectors.toCollection(TreeSet::new));
    }

    private static Set<String> seen() {
        Set<String> lines = new TreeSet<>();
        for (Field field : NonsenseRows.class.getDeclaredFields()) {
            if (!Modifier.isPrivate(field.getModifiers())) {
                lines.add(Modifier.toString(field.getModifiers()) + " " + field.getType() + " " + field.getName());
            }
        }
        for (Constructor<?> made : NonsenseRows.class.getDeclaredConstructors()) {
            if (!Modifier.isPrivate(made.getModifiers())) {
                lines.add(Modifier.toString(made.getModifiers()) + " NonsenseRows(" + given(made.getParameterTypes()) + ")");
            }
        }
        for (Method method : NonsenseRows.class.getDeclaredMethods()) {
            if (!Modifier.isPrivate(method.getModifiers()) && !method.isSynthetic()) {
                lines.add(Modifier.toString(method.getModifiers()) + " " + method.getReturnType() + " " + method.getName() + "("
                    + given(method.getParameterTypes()) + ")");
            }
        }
        return lines;
    }

    private static String given(Class<?>[] types) {
        return Arrays.stream(types).map(Class::getName).collect(Collectors.joining(", "));
    }

    private static void inside() {
        for (Class<?> each : NonsenseRows.class.getDeclaredClasses()) {
            DUE.is("static: " + each, Modifier.isStatic(each.getModifiers()) ? 1 : 0, 1);
            DUE.is("public or protected: " + each, each.getModifiers() & (Modifier.PUBLIC | Modifier.PROTECTED), 0);
        }
        DUE.is("what it stands on is Object", NonsenseRows.class.getSuperclass() == Object.class ? 1 : 0, 1);
        DUE.is("interfaces", NonsenseRows.class.getInterfaces().length, 0);
    }
}
