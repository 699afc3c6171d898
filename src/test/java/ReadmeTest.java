import java.io.IOException;
import java.lang.reflect.Method;
import java.lang.reflect.Modifier;
import java.nio.file.Files;
import java.nio.file.Path;
import java.util.ArrayList;
import java.util.List;
import java.util.regex.Matcher;
import java.util.regex.Pattern;
import java.util.stream.Stream;

/** README.md: its example answers as it says, and it names every call and every test. */
public final class ReadmeTest {
    private static final Expect E = new Expect();
    private static final Pattern ANSWERED =
        Pattern.compile("(.*;) +// (-?\\d+|true|false|ShingledDisk\\.NONE)\\b.*");
    private static final Pattern TELL = Pattern.compile("tell\\(x, \"([^\"]*)\"\\);");
    private static final Pattern CALL = Pattern.compile("x\\.(\\w+)\\(([-\\d, ]*)\\);");

    public static void main(String[] args) throws IOException, ReflectiveOperationException {
        Path root = Path.of(args.length > 0 ? args[0] : ".");
        String readme = Files.readString(root.resolve("README.md"));
        List<String> blocks = javaBlocks(readme);
        E.same("blocks of Java", blocks.size(), 2);
        E.yes("feed and tell are those that the tests use",
            unspaced(Files.readString(root.resolve("src/test/java/Expect.java")))
                .contains(unspaced(blocks.get(0))));
        example(blocks.get(1));
        namesEveryCall(readme);
        namesEveryTest(readme, root.resolve("src/test/java"));
        E.end("ReadmeTest");
    }

    private static List<String> javaBlocks(String readme) {
        List<String> blocks = new ArrayList<>();
        Matcher m = Pattern.compile("(?s)```java\n(.*?)```").matcher(readme);
        while (m.find()) {
            blocks.add(m.group(1));
        }
        return blocks;
    }

    private static String unspaced(String text) {
        return text.replaceAll("\\s+", "");
    }

    private static void example(String block) throws ReflectiveOperationException {
        ShingledDisk x = new ShingledDisk();
        int answers = 0;
        for (String line : block.split("\n")) {
            if (line.isEmpty() || line.startsWith("//") || line.equals("ShingledDisk x = new ShingledDisk();")) {
                continue;
            }
            Matcher m = ANSWERED.matcher(line);
            E.yes("a call and its answer: " + line, m.matches());
            if (m.matches()) {
                E.same(m.group(1), answer(x, m.group(1)), due(m.group(2)));
                answers++;
            }
        }
        E.yes("calls with answers: " + answers, answers > 20);
    }

    private static long due(String told) {
        switch (told) {
            case "true":
                return 1;
            case "false":
                return 0;
            case "ShingledDisk.NONE":
                return ShingledDisk.NONE;
            default:
                return Long.parseLong(told);
        }
    }

    private static long answer(ShingledDisk x, String statement) throws ReflectiveOperationException {
        Matcher tell = TELL.matcher(statement);
        if (tell.matches()) {
            return Expect.tell(x, tell.group(1));
        }
        Matcher call = CALL.matcher(statement);
        if (!call.matches()) {
            throw new NoSuchMethodException(statement);
        }
        String[] numbers = call.group(2).isEmpty() ? new String[0] : call.group(2).split(", ");
        Object[] given = new Object[numbers.length];
        Class<?>[] types = new Class<?>[numbers.length];
        for (int i = 0; i < numbers.length; i++) {
            given[i] = Integer.valueOf(numbers[i]);
            types[i] = int.class;
        }
        Object got = ShingledDisk.class.getMethod(call.group(1), types).invoke(x, given);
        return got instanceof Boolean ? ((Boolean) got ? 1 : 0) : ((Number) got).longValue();
    }

    private static void namesEveryCall(String readme) {
        for (Method method : ShingledDisk.class.getDeclaredMethods()) {
            if (Modifier.isPublic(method.getModifiers())) {
                E.yes("names the call " + method.getName(), readme.contains("`" + method.getName() + "`"));
            }
        }
    }

    private static void namesEveryTest(String readme, Path folder) throws IOException {
        List<String> tests = new ArrayList<>();
        try (Stream<Path> files = Files.list(folder)) {
            files.forEach(file -> tests.add(file.getFileName().toString()));
        }
        for (String file : tests) {
            if (file.endsWith("Test.java")) {
                String name = file.substring(0, file.length() - ".java".length());
                E.yes("names the test " + name, readme.contains("`" + name + "`"));
            }
        }
    }
}
