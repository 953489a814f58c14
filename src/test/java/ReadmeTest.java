import java.io.IOException;
import java.lang.reflect.Field;
import java.lang.reflect.Method;
import java.lang.reflect.Modifier;
import java.nio.file.Files;
import java.nio.file.Path;
import java.util.ArrayList;
import java.util.Arrays;
import java.util.List;
import java.util.regex.Matcher;
import java.util.regex.Pattern;

/** README.md: its example answers what it says there, and it names every call, every constant and every test. */
public final class ReadmeTest {
    private static final Path README = Path.of("README.md"), TESTS = Path.of("src/test/java");
    private static final Pattern CALL = Pattern.compile("x\\.(\\w+)\\(([^;]*)\\);\\s*// (-?\\d+)(: .*)?");

    public static void main(String[] args) throws Exception {
        String readme = Files.readString(README);
        example(readme);
        names(readme);
        Due.end();
    }

    private static void example(String readme) throws Exception {
        Matcher block = Pattern.compile("(?s)```java\n(.*?)```").matcher(readme);
        Due.is("an example", block.find() ? 1 : 0, 1);
        String code = block.group(1);
        Matcher front = Pattern.compile("String front = \"([^\"]*)\";").matcher(code);
        Due.is("a front in the example", front.find() ? 1 : 0, 1);
        FlossRumours x = new FlossRumours();
        int calls = 0;
        for (String line : code.split("\n")) {
            Matcher call = CALL.matcher(line);
            if (call.matches()) {
                Due.is(line, answer(x, call.group(1), call.group(2), front.group(1)), Long.parseLong(call.group(3)));
                calls++;
            } else if (line.startsWith("for ")) {
                for (int i = 0; i < front.group(1).length(); i++) x.put(0, i, front.group(1).charAt(i));
            } else {
                Due.is("neither an answer nor a beginning: " + line, line.matches("(FlossRumours|String) .*") ? 1 : 0, 1);
            }
        }
        Due.is("calls with answers", calls > 5 ? 1 : 0, 1);
    }

    private static long answer(FlossRumours x, String name, String numbers, String front) throws Exception {
        List<Integer> given = new ArrayList<>();
        for (String number : numbers.isBlank() ? new String[0] : numbers.split(", ")) {
            given.add(number.equals("front.length()") ? front.length() : Integer.parseInt(number));
        }
        Class<?>[] types = new Class<?>[given.size()];
        Arrays.fill(types, int.class);
        return ((Number) FlossRumours.class.getMethod(name, types).invoke(x, given.toArray())).longValue();
    }

    private static void names(String readme) throws IOException {
        for (Method m : FlossRumours.class.getDeclaredMethods()) {
            if (Modifier.isPublic(m.getModifiers())) named(readme, m.getName());
        }
        for (Field f : FlossRumours.class.getDeclaredFields()) {
            if (Modifier.isPublic(f.getModifiers())) named(readme, f.getName());
        }
        try (var files = Files.list(TESTS)) {
            for (Path file : files.toList()) {
                String name = file.getFileName().toString().replace(".java", "");
                if (name.endsWith("Test")) named(readme, name);
            }
        }
    }

    private static void named(String readme, String name) {
        Due.is("README.md names " + name, readme.contains("`" + name + "`") ? 1 : 0, 1);
    }
}
