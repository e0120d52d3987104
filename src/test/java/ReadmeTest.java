import java.io.IOException;
import java.lang.reflect.Method;
import java.lang.reflect.Modifier;
import java.nio.file.Files;
import java.nio.file.Path;
import java.util.regex.Matcher;
import java.util.regex.Pattern;

/** What README.md says of the class: the answers of its example, and that no call is left out. */
public final class ReadmeTest {
    private final Check check = new Check("ReadmeTest");
    private final String readme;

    private ReadmeTest() throws IOException {
        readme = Files.readString(Path.of("README.md"));
    }

    public static void main(String[] args) throws IOException, ReflectiveOperationException {
        ReadmeTest t = new ReadmeTest();
        t.example();
        t.calls();
        t.check.close();
    }

    /** The text between quotes is fed; then each line's call must answer the number that begins its comment. */
    private void example() throws ReflectiveOperationException {
        String block = readme.substring(readme.indexOf("```java"), readme.indexOf("```\n", readme.indexOf("```java")));
        RainCover x = new RainCover();
        for (char c : block.split("\"")[1].toCharArray()) {
            x.feed(c);
        }
        Matcher line = Pattern.compile("x\\.(\\w+)\\(([^)]*)\\);\\s*// (-?\\d+)\\b").matcher(block);
        int lines = 0;
        while (line.find()) {
            lines++;
            check.due(line.group(1) + "(" + line.group(2) + ")", answer(x, line.group(1), line.group(2)), Long.parseLong(line.group(3)));
        }
        check.due("calls with an answer, each with its line", lines, block.lines().filter(l -> l.startsWith("x.")).count());
    }

    private static long answer(RainCover x, String name, String list) throws ReflectiveOperationException {
        String[] numbers = list.isBlank() ? new String[0] : list.split(",\\s*");
        Class<?>[] types = new Class<?>[numbers.length];
        Object[] values = new Object[numbers.length];
        for (int i = 0; i < numbers.length; i++) {
            types[i] = int.class;
            values[i] = Integer.valueOf(numbers[i]);
        }
        return ((Number) RainCover.class.getMethod(name, types).invoke(x, values)).longValue();
    }

    private void calls() {
        for (Method method : RainCover.class.getDeclaredMethods()) {
            if (Modifier.isPublic(method.getModifiers())) {
                check.due("README.md names " + method.getName(), readme.contains("`" + method.getName() + "`") ? 1 : 0, 1);
            }
        }
    }
}
