import java.lang.reflect.InvocationTargetException;
import java.lang.reflect.Method;
import java.lang.reflect.Modifier;
import java.nio.file.Files;
import java.nio.file.Path;
import java.util.Arrays;
import java.util.List;
import java.util.regex.Matcher;
import java.util.regex.Pattern;

/** README.md: its examples answer as it says, and it names every method of the face and every test. */
final class ReadmeTest {
    private static final Pattern CALL = Pattern.compile("desk\\.(\\w+)\\(([^)]*)\\); +// (.+)");

    public static void main(String[] args) throws Exception {
        List<String> lines = Files.readAllLines(Path.of("README.md"));
        checkExamples(lines);
        checkNames(String.join("\n", lines));
        Check.end("ReadmeTest");
    }

    private static void checkExamples(List<String> lines) throws Exception {
        BitDesk desk = null;
        boolean isExample = false;
        for (String line : lines) {
            if (line.startsWith("```")) {
                isExample = line.equals("```java");
            } else if (isExample && line.equals("BitDesk desk = new BitDesk();")) {
                desk = new BitDesk();
            } else if (isExample) {
                Matcher call = CALL.matcher(line);
                Check.due("README's '" + line + "' is a call with its answer", call.matches(), true);
                if (call.matches()) {
                    Check.due(line, answer(desk, call.group(1), call.group(2).split(", *")), call.group(3));
                }
            }
        }
    }

    private static String answer(BitDesk desk, String name, String[] texts) throws Exception {
        Method method = methodOf(name);
        Class<?>[] types = method.getParameterTypes();
        Object[] values = new Object[types.length];
        for (int i = 0; i < types.length; i++) {
            values[i] = value(types[i], texts[i]);
        }
        try {
            return String.valueOf(method.invoke(desk, values));
        } catch (InvocationTargetException e) {
            return "throws " + e.getCause().getClass().getSimpleName();
        }
    }

    private static Method methodOf(String name) {
        return Arrays.stream(BitDesk.class.getMethods()).filter(method -> method.getName().equals(name)).findFirst().orElseThrow();
    }

    private static Object value(Class<?> type, String text) {
        if (type == boolean.class) {
            return Boolean.valueOf(text);
        }
        return type == int.class ? (Object) Integer.decode(text) : (Object) Long.decode(text.replaceFirst("L$", ""));
    }

    private static void checkNames(String page) throws Exception {
        for (Method method : BitDesk.class.getDeclaredMethods()) {
            if (Modifier.isPublic(method.getModifiers())) {
                String name = method.getName();
                boolean isNamed = page.contains("`" + name + "`") || page.contains("`" + name + "()`") || page.contains("desk." + name + "(");
                Check.due(name + " is named", isNamed, true);
            }
        }
        try (var files = Files.list(Path.of("src/test/java"))) {
            for (Path file : (Iterable<Path>) files::iterator) {
                String name = file.getFileName().toString().replace(".java", "");
                Check.due(name + " is named", page.contains("`" + name + "`"), true);
                Check.due(name + " has a row", page.contains("| `" + name + "` |"), name.endsWith("Test"));
            }
        }
    }
}
