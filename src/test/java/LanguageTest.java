import java.io.IOException;
import java.lang.reflect.Field;
import java.lang.reflect.Modifier;
import java.nio.file.Files;
import java.nio.file.Path;
import java.util.ArrayList;
import java.util.HashSet;
import java.util.List;
import java.util.Map;
import java.util.Set;
import java.util.TreeMap;
import java.util.regex.Matcher;
import java.util.regex.Pattern;

/** Those rules of ../shared/LANGUAGE.md that can be read off the program's text, or off its fields. */
public final class LanguageTest extends Check {
    private static final Path PROGRAM = Path.of("src/main/java/PriorityKernel.java");
    private static final Pattern METHOD = Pattern.compile(
        "(?m)^ +(?:(?:public|private|static|final) )*(?:[\\w\\[\\]<>]+ )?(\\w+)\\(([^()]*)\\) \\{$");
    private static final Pattern CALL = Pattern.compile("(\\w+)\\(");
    private static final int MOST_LINES = 60;
    private static final int MOST_PARAMETERS = 7;
    private static final int DEEPEST_CALL = 8;
    private static final int MOST_FIELDS = 20;
    private static final int MOST_CLASSES = 12;

    private LanguageTest() {
    }

    public static void main(String[] args) throws IOException {
        String text = Files.readString(PROGRAM).replaceAll("(?s)/\\*.*?\\*/|//[^\\n]*", "");
        forbiddenWords(text);
        Map<String, Set<String>> calls = methods(text);
        about("rule 11, calls go at most " + DEEPEST_CALL + " deep");
        for (String name : calls.keySet()) {
            deepEnough(name, calls, new ArrayList<>());
        }
        fields();
        end();
    }

    private static void forbiddenWords(String text) {
        about("rules 2, 4, 5, 6 and 13");
        String[] words = {"package", "throw", "throws", "try", "catch", "finally", "synchronized", "volatile", "assert", "Random",
            "Thread", "Runtime", "currentTimeMillis", "nanoTime", "equals", "hashCode", "toString", "import java\\.(?!util\\.)"};
        for (String word : words) {
            due(word, count(text, "\\b" + word + "\\b"), 0);
        }
        due("a lambda", count(text, "->"), 0);
        due("a method reference", count(text, "::"), 0);
        due("a static initialiser", count(text, "static \\{"), 0);
    }

    private static int count(String text, String pattern) {
        return (int) Pattern.compile(pattern).matcher(text).results().count();
    }

    /** Each method with those that it calls. */
    private static Map<String, Set<String>> methods(String text) {
        about("rule 11, methods");
        Map<String, String> bodies = new TreeMap<>();
        Matcher found = METHOD.matcher(text);
        while (found.find()) {
            if (Set.of("if", "for", "while", "switch").contains(found.group(1))) {
                continue;
            }
            String body = body(text, found.end());
            bodies.merge(found.group(1), body, String::concat);
            due(found.group(1) + " is short", body.lines().count() <= MOST_LINES ? 1 : 0, 1);
            due(found.group(1) + " has few parameters", found.group(2).split(",").length <= MOST_PARAMETERS ? 1 : 0, 1);
            if (!found.group(1).equals("PriorityKernel")) {
                due("rule 12, " + found.group(1) + " makes no object", count(body, "\\bnew\\b"), 0);
            }
        }
        due("the methods of the face are among them", bodies.size() > 19 ? 1 : 0, 1);
        Map<String, Set<String>> calls = new TreeMap<>();
        bodies.forEach((name, body) -> calls.put(name, called(body, bodies.keySet())));
        return calls;
    }

    private static String body(String text, int start) {
        int open = 1;
        int end = start;
        while (open > 0 && end < text.length()) {
            char c = text.charAt(end);
            open += c == '{' ? 1 : c == '}' ? -1 : 0;
            end++;
        }
        return text.substring(start, end);
    }

    private static Set<String> called(String body, Set<String> own) {
        Set<String> called = new HashSet<>();
        CALL.matcher(body).results().map(call -> call.group(1)).filter(own::contains).forEach(called::add);
        return called;
    }

    private static void deepEnough(String name, Map<String, Set<String>> calls, List<String> open) {
        boolean fine = open.size() < DEEPEST_CALL && !open.contains(name);
        due("from " + open + " to " + name, fine ? 1 : 0, 1);
        if (!fine) {
            return;
        }
        List<String> further = new ArrayList<>(open);
        further.add(name);
        for (String next : calls.get(name)) {
            deepEnough(next, calls, further);
        }
    }

    private static void fields() {
        about("rules 5 and 11, fields and classes");
        List<Class<?>> classes = new ArrayList<>(List.of(PriorityKernel.class.getDeclaredClasses()));
        classes.add(PriorityKernel.class);
        due("few classes", classes.size() <= MOST_CLASSES ? 1 : 0, 1);
        for (Class<?> one : classes) {
            int own = 0;
            for (Field field : one.getDeclaredFields()) {
                boolean fixed = Modifier.isStatic(field.getModifiers());
                due(field + " is final", fixed && !Modifier.isFinal(field.getModifiers()) ? 0 : 1, 1);
                own += fixed ? 0 : 1;
            }
            due("few fields of " + one, own <= MOST_FIELDS ? 1 : 0, 1);
        }
    }
}
