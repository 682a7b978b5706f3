import java.io.IOException;
import java.lang.reflect.Method;
import java.lang.reflect.Modifier;
import java.nio.file.Files;
import java.nio.file.Path;
import java.util.ArrayList;
import java.util.List;
import java.util.regex.Matcher;
import java.util.regex.Pattern;

/** The example of README.md answers what README.md says, and its table names every call. */
public final class ReadmeTest {
    private static final Check CHECK = new Check();
    private static final Path README = Path.of("README.md");
    /** A line of the example: a call, and behind it what it answers. */
    private static final Pattern LINE = Pattern.compile("(?:int (\\w+) = )?hall\\.(\\w+)\\((.*)\\); +// (-?\\d+).*");

    private final List<String> names = new ArrayList<>();
    private final List<Integer> numbers = new ArrayList<>();
    private final EchoBids hall = new EchoBids();

    private static List<String> example() throws IOException {
        String text = Files.readString(README);
        int from = text.indexOf("```java\n") + "```java\n".length();
        return List.of(text.substring(from, text.indexOf("```", from)).split("\n"));
    }

    private static int setting(String name) {
        switch (name) {
            case "EchoBids.LAG": return EchoBids.LAG;
            case "EchoBids.STEP": return EchoBids.STEP;
            case "EchoBids.QUIET": return EchoBids.QUIET;
            default: return EchoBids.PRICE;
        }
    }

    private long value(String word) {
        if (names.contains(word)) {
            return numbers.get(names.indexOf(word));
        }
        if (word.startsWith("EchoBids.")) {
            return setting(word);
        }
        return Long.decode(word.replace("L", ""));
    }

    private long answer(String name, long[] given) throws ReflectiveOperationException {
        for (Method method : EchoBids.class.getMethods()) {
            Class<?>[] types = method.getParameterTypes();
            if (method.getName().equals(name) && types.length == given.length) {
                Object[] arguments = new Object[given.length];
                for (int at = 0; at < given.length; at++) {
                    if (types[at] == long.class) {
                        arguments[at] = given[at];
                    } else {
                        arguments[at] = (int) given[at];
                    }
                }
                return ((Number) method.invoke(hall, arguments)).longValue();
            }
        }
        CHECK.holds("there is a call " + name, false);
        return 0;
    }

    private void play(String line) throws ReflectiveOperationException {
        Matcher matcher = LINE.matcher(line);
        CHECK.holds("a call and its answer: " + line, matcher.matches());
        String[] words = matcher.group(3).isEmpty() ? new String[0] : matcher.group(3).split(", ");
        long[] given = new long[words.length];
        for (int at = 0; at < words.length; at++) {
            given[at] = value(words[at]);
        }
        long answer = answer(matcher.group(2), given);
        CHECK.due(line, answer, Long.parseLong(matcher.group(4)));
        if (matcher.group(1) != null) {
            names.add(matcher.group(1));
            numbers.add((int) answer);
        }
    }

    private static void example(ReadmeTest test) throws IOException, ReflectiveOperationException {
        CHECK.part("README's example");
        List<String> lines = example();
        CHECK.holds("it makes a hall first", lines.get(0).equals("EchoBids hall = new EchoBids();"));
        for (String line : lines.subList(1, lines.size())) {
            test.play(line);
        }
    }

    private static void table() throws IOException {
        CHECK.part("README's table");
        StringBuilder rows = new StringBuilder();
        for (String line : Files.readAllLines(README)) {
            rows.append(line.startsWith("| `") ? line : "");
        }
        for (Method method : EchoBids.class.getDeclaredMethods()) {
            if (Modifier.isPublic(method.getModifiers())) {
                CHECK.holds("it names " + method.getName(), rows.indexOf("`" + method.getName() + "`") >= 0);
            }
        }
    }

    public static void main(String[] args) throws IOException, ReflectiveOperationException {
        example(new ReadmeTest());
        table();
        CHECK.finish("README");
    }
}
