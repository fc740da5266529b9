import java.io.IOException;
import java.lang.reflect.InvocationTargetException;
import java.lang.reflect.Method;
import java.lang.reflect.Modifier;
import java.nio.file.DirectoryStream;
import java.nio.file.Files;
import java.nio.file.Path;
import java.util.HashMap;
import java.util.List;
import java.util.Map;
import java.util.TreeSet;
import java.util.regex.Matcher;
import java.util.regex.Pattern;

/**
 * README.md says how to use the class and how to run its tests: each call in its examples answers what stands behind
 * it, every call of the face and every test of the project is there.
 */
public final class ReadmeTest {
    private static final Path PAGE = Path.of("README.md");
    private static final Path TESTS = Path.of("src/test/java");
    private static final String ANSWER = "\\s*// (-?\\d+)(?:: .*)?";
    private static final Pattern NEW = Pattern.compile("DiscLines x = new DiscLines\\(\\);");
    private static final Pattern WRITE = Pattern.compile("write\\(x, (\\d), \"([^\"]*)\"\\);" + ANSWER);
    private static final Pattern CALL = Pattern.compile("x\\.(\\w+)\\(([-0-9, ]*)\\);" + ANSWER);

    private static final Map<String, Method> FACE = new HashMap<>();
    private static final TreeSet<String> UNTOLD = new TreeSet<>();
    private static DiscLines x = new DiscLines();
    private static int wrong = 0;

    public static void main(String[] args) throws IOException, IllegalAccessException, InvocationTargetException {
        for (Method m : DiscLines.class.getDeclaredMethods()) {
            if (Modifier.isPublic(m.getModifiers())) {
                FACE.put(m.getName(), m);
            }
        }
        UNTOLD.addAll(FACE.keySet());
        List<String> lines = Files.readAllLines(PAGE);
        examples(lines);
        check(UNTOLD.isEmpty(), "no example of " + UNTOLD);
        tests(String.join("\n", lines));
        System.out.println(wrong == 0 ? "the page is as the class" : wrong + " things on the page are not as told");
        if (wrong != 0) {
            System.exit(1);
        }
    }

    private static void check(boolean holds, String what) {
        if (!holds) {
            wrong++;
            System.out.println("README.md: " + what);
        }
    }

    private static void examples(List<String> lines) throws IllegalAccessException, InvocationTargetException {
        boolean inside = false;
        for (String line : lines) {
            if (line.startsWith("```")) {
                inside = line.equals("```java");
            } else if (inside) {
                example(line);
            }
        }
    }

    private static void example(String line) throws IllegalAccessException, InvocationTargetException {
        Matcher call = CALL.matcher(line);
        Matcher write = WRITE.matcher(line);
        if (NEW.matcher(line).matches()) {
            x = new DiscLines();
        } else if (write.matches()) {
            UNTOLD.remove("write");
            due(line, written(Integer.parseInt(write.group(1)), write.group(2)), write.group(3));
        } else if (call.matches() && FACE.containsKey(call.group(1))) {
            UNTOLD.remove(call.group(1));
            due(line, answer(FACE.get(call.group(1)), call.group(2)), call.group(3));
        } else {
            check(false, "not an example: " + line);
        }
    }

    private static long written(int law, String text) {
        int answer = 0;
        for (char c : text.toCharArray()) {
            answer = x.write(law, c);
        }
        return answer;
    }

    private static long answer(Method m, String told) throws IllegalAccessException, InvocationTargetException {
        String[] numbers = told.isEmpty() ? new String[0] : told.split(", ");
        Object[] arguments = new Object[numbers.length];
        for (int i = 0; i < numbers.length; i++) {
            arguments[i] = Integer.valueOf(numbers[i]);
        }
        return ((Number) m.invoke(x, arguments)).longValue();
    }

    private static void due(String line, long got, String want) {
        check(got == Long.parseLong(want), line + " answered " + got);
    }

    private static void tests(String page) throws IOException {
        check(page.contains(".ci/run"), "how to run the tests");
        try (DirectoryStream<Path> found = Files.newDirectoryStream(TESTS, "*.java")) {
            for (Path test : found) {
                check(page.contains("`" + TESTS + "/" + test.getFileName() + "`"), "no word of " + test);
            }
        }
    }
}
