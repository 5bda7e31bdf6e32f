import java.io.IOException;
import java.lang.reflect.Method;
import java.lang.reflect.Modifier;
import java.nio.file.Files;
import java.nio.file.Path;
import java.util.Map;
import java.util.regex.Matcher;
import java.util.regex.Pattern;

/** The example in README.md answers what it says there, and the text names every call and constant. */
public final class ReadmeTest extends Check {
    private static final Pattern MAKING = Pattern.compile("new PriorityKernel\\((\\d+), (\\d+)\\);");
    private static final Pattern LINE = Pattern.compile("(?m)^kernel\\.(\\w+)\\((.*)\\); *// ([-\\w]+)");
    private static final Map<String, Long> CONSTANTS = Map.of("REFUSED", (long) REFUSED, "DONE", (long) DONE,
        "BLOCKED", (long) BLOCKED, "TIMED_OUT", (long) TIMED_OUT, "NONE", NONE);

    private ReadmeTest() {
    }

    public static void main(String[] args) throws IOException {
        String text = Files.readString(Path.of("README.md"));
        example(text);
        about("README.md names");
        for (Method method : PriorityKernel.class.getDeclaredMethods()) {
            if (Modifier.isPublic(method.getModifiers())) {
                due(method.getName(), text.contains("`" + method.getName()) ? 1 : 0, 1);
            }
        }
        for (String constant : CONSTANTS.keySet()) {
            due(constant, text.contains("`" + constant + "`") ? 1 : 0, 1);
        }
        end();
    }

    private static void example(String text) {
        about("README.md, the example");
        Matcher making = MAKING.matcher(text);
        due("a kernel is made", making.find() ? 1 : 0, 1);
        PriorityKernel k = new PriorityKernel(Integer.parseInt(making.group(1)), Integer.parseInt(making.group(2)));
        Matcher line = LINE.matcher(text);
        int lines = 0;
        while (line.find()) {
            String answer = line.group(3);
            long want = CONSTANTS.containsKey(answer) ? CONSTANTS.get(answer) : Long.parseLong(answer);
            due(line.group(), call(line.group(1), line.group(2)).on(k), want);
            lines++;
        }
        due("each line was read", lines, text.lines().filter(l -> l.startsWith("kernel.")).count());
    }

    private static Call call(String name, String arguments) {
        String numbers = arguments.replaceAll(",? *(true|false)", "");
        int[] given = numbers.isEmpty() ? new int[0] : Pattern.compile(", *").splitAsStream(numbers).mapToInt(Integer::parseInt).toArray();
        return new Call(Call.Kind.valueOf(name.toUpperCase()), given, arguments.contains("true"));
    }
}
