import java.io.IOException;
import java.lang.reflect.Field;
import java.lang.reflect.Method;
import java.lang.reflect.Modifier;
import java.nio.file.Files;
import java.nio.file.Path;
import java.util.List;
import java.util.regex.Matcher;
import java.util.regex.Pattern;
import java.util.stream.Stream;

/** README.md tells every call, constant and test, and its example answers what it says. */
final class ReadmeTest {
    private static final Path README = Path.of("README.md");
    private static final Path TESTS = Path.of("src/test/java");
    /** A line of the example: a call with numbers, and its answer in the comment. */
    private static final Pattern CALL = Pattern.compile("^light\\.(\\w+)\\(([\\d, ]*)\\);\\s*// (-?\\d+)\\b.*");
    private static final Pattern PICTURE = Pattern.compile("`(\\d+,\\d+\\+[^`A-Z]*)`");

    public static void main(String[] args) throws IOException, ReflectiveOperationException {
        Due due = new Due();
        List<String> lines = Files.readAllLines(README);
        String text = String.join("\n", lines);
        calls(due, text);
        constants(due, text);
        tests(due, text);
        example(due, lines);
        pictures(due, text);
        due.close("ReadmeTest");
    }

    private static void calls(Due due, String text) {
        for (Method method : ZonedLight.class.getDeclaredMethods()) {
            if (Modifier.isPublic(method.getModifiers())) {
                due.check("README tells " + method.getName(), text.contains("| `" + method.getName() + "("));
            }
        }
    }

    private static void constants(Due due, String text) throws ReflectiveOperationException {
        for (Field field : ZonedLight.class.getFields()) {
            String words = "`" + field.getName() + "` (" + field.getInt(null) + ")";
            due.check("README tells " + words, text.contains(words));
        }
    }

    private static void tests(Due due, String text) throws IOException {
        try (Stream<Path> files = Files.list(TESTS)) {
            for (Path file : files.toList()) {
                String name = file.getFileName().toString().replace(".java", "");
                if (name.endsWith("Test")) {
                    due.check("README tells " + name, text.contains("| " + name + " |"));
                }
            }
        }
    }

    private static void example(Due due, List<String> lines) throws ReflectiveOperationException {
        ZonedLight light = new ZonedLight();
        int answers = 0;
        for (String line : lines) {
            Matcher call = CALL.matcher(line);
            if (call.matches()) {
                int answer = (Integer) answer(light, call.group(1), call.group(2).split(", "));
                due.due(line, answer, Integer.parseInt(call.group(3)));
                answers++;
            } else {
                due.check("there is an answer with " + line, !line.startsWith("light."));
            }
        }
        due.check("there is an example", answers > 0);
    }

    private static Object answer(ZonedLight light, String name, String[] numbers)
            throws ReflectiveOperationException {
        int given = numbers[0].isEmpty() ? 0 : numbers.length;
        Class<?>[] types = new Class<?>[given];
        Object[] values = new Object[given];
        for (int i = 0; i < given; i++) {
            types[i] = int.class;
            values[i] = Integer.valueOf(numbers[i]);
        }
        return ZonedLight.class.getMethod(name, types).invoke(light, values);
    }

    private static void pictures(Due due, String text) {
        Matcher picture = PICTURE.matcher(text);
        boolean found = false;
        while (picture.find()) {
            found = true;
            due.due("fault() of " + picture.group(1), new Light().write(picture.group(1)).fault(), -5);
        }
        due.check("there is a picture", found);
    }
}
