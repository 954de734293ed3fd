import java.io.IOException;
import java.lang.reflect.Method;
import java.lang.reflect.Modifier;
import java.nio.file.Files;
import java.nio.file.Path;
import java.util.Arrays;
import java.util.regex.Matcher;
import java.util.regex.Pattern;

/** README.md tells of every call of the face, with what it takes, and the calls of its example answer what it says. */
public final class ReadmeTest {
    private static final Due DUE = new Due();
    private static final Pattern CALL = Pattern.compile("^x\\.(\\w+)\\(([^)]*)\\);(?: *// (-?\\d+))?", Pattern.MULTILINE);

    public static void main(String[] args) throws IOException, ReflectiveOperationException {
        String page = Files.readString(Path.of("README.md"));
        DUE.about("README.md");
        for (Method method : NonsenseRows.class.getDeclaredMethods()) {
            if (Modifier.isPublic(method.getModifiers())) {
                DUE.is("is told of: " + method.getName(), tellsOf(page, method) ? 1 : 0, 1);
            }
        }
        example(page);
        DUE.end("ReadmeTest");
    }

    private static boolean tellsOf(String page, Method method) {
        Matcher row = Pattern.compile("^\\| `" + method.getName() + "\\(([^)]*)\\)` \\|", Pattern.MULTILINE).matcher(page);
        return row.find() && (row.group(1).isEmpty() ? 0 : row.group(1).split(",").length) == method.getParameterCount();
    }

    private static void example(String page) throws ReflectiveOperationException {
        int start = page.indexOf("```java");
        Matcher each = CALL.matcher(page.substring(start, page.indexOf("```\n", start)));
        NonsenseRows x = new NonsenseRows();
        int told = 0;
        while (each.find()) {
            long answer = call(x, each.group(1), each.group(2));
            if (each.group(3) != null) {
                DUE.is(each.group(1) + "(" + each.group(2) + ")", answer, Long.parseLong(each.group(3)));
                told++;
            }
        }
        DUE.is("answers told in the example", told, 9);
    }

    private static long call(NonsenseRows x, String name, String given) throws ReflectiveOperationException {
        Object[] numbers = Arrays.stream(given.split(", *")).filter(each -> !each.isEmpty()).map(Integer::decode).toArray();
        for (Method method : NonsenseRows.class.getDeclaredMethods()) {
            if (method.getName().equals(name) && Modifier.isPublic(method.getModifiers())) {
                return ((Number) method.invoke(x, numbers)).longValue();
            }
        }
        DUE.is("there is " + name, 0, 1);
        return 0;
    }
}
