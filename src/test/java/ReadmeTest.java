import java.io.IOException;
import java.lang.reflect.InvocationTargetException;
import java.lang.reflect.Method;
import java.lang.reflect.Modifier;
import java.nio.file.Files;
import java.nio.file.Path;
import java.util.ArrayList;
import java.util.List;
import java.util.Map;
import java.util.TreeMap;
import java.util.regex.Matcher;
import java.util.regex.Pattern;
import java.util.stream.Stream;

/** What README.md says of the class is so: its example's answers, its table of calls, its list of tests. */
public final class ReadmeTest {
    private static final Path README = Path.of("README.md");
    private static final Path TESTS = Path.of("src/test/java");
    private static final Pattern EXAMPLE = Pattern.compile("(?s)```java\n(.*?)```");
    private static final Pattern PLAYED = Pattern.compile("booth\\.(\\w+)\\((.*?)\\); *// (.*?): .*");
    private static final Pattern ROW = Pattern.compile("(?m)^\\| `(\\w+)\\((.*?)\\)` \\|");
    private static final Check CHECK = new Check();

    public static void main(String[] args) throws Exception {
        String readme = Files.readString(README);
        Map<String, Method> calls = calls();
        theExampleAnswersAsItSays(exampleOf(readme), calls);
        theTableHasEveryCall(readme, calls);
        everyTestIsNamed(readme);
        CHECK.end();
    }

    private static Map<String, Method> calls() {
        Map<String, Method> calls = new TreeMap<>();
        for (Method call : MoneyBooth.class.getDeclaredMethods()) {
            if (Modifier.isPublic(call.getModifiers())) {
                calls.put(call.getName(), call);
            }
        }
        return calls;
    }

    private static List<String> exampleOf(String readme) {
        Matcher example = EXAMPLE.matcher(readme);
        CHECK.holds("there is an example", example.find());
        return example.group(1).lines().toList();
    }

    private static void theExampleAnswersAsItSays(List<String> lines, Map<String, Method> calls) throws Exception {
        CHECK.holds("the example makes a booth", lines.get(0).equals("MoneyBooth booth = new MoneyBooth();"));
        MoneyBooth booth = new MoneyBooth();
        List<String> played = new ArrayList<>();
        for (String line : lines.subList(1, lines.size())) {
            Matcher call = PLAYED.matcher(line);
            boolean known = call.matches() && calls.containsKey(call.group(1));
            CHECK.holds("the example has a call and its answer: " + line, known);
            if (known) {
                String answer = answer(booth, calls.get(call.group(1)), numbersOf(call.group(2)));
                CHECK.holds(line + " -- it is " + answer, answer.equals(call.group(3)));
                played.add(call.group(1));
            }
        }
        for (String name : calls.keySet()) {
            CHECK.holds("the example plays " + name, played.contains(name));
        }
    }

    private static Object[] numbersOf(String parts) {
        return namesOf(parts).stream().map(Integer::valueOf).toArray();
    }

    private static List<String> namesOf(String parts) {
        return parts.isEmpty() ? List.of() : List.of(parts.split(", "));
    }

    private static String answer(MoneyBooth booth, Method call, Object[] numbers) throws IllegalAccessException {
        if (numbers.length != call.getParameterCount()) {
            return "no call of " + call.getName();
        }
        try {
            return String.valueOf(call.invoke(booth, numbers));
        } catch (InvocationTargetException e) {
            return "throws " + e.getCause().getClass().getSimpleName();
        }
    }

    private static void theTableHasEveryCall(String readme, Map<String, Method> calls) {
        List<String> rows = new ArrayList<>();
        Matcher row = ROW.matcher(readme);
        while (row.find()) {
            Method call = calls.get(row.group(1));
            CHECK.holds("the class has " + row.group(), call != null
                    && call.getParameterCount() == namesOf(row.group(2)).size());
            rows.add(row.group(1));
        }
        for (String name : calls.keySet()) {
            CHECK.holds("the table has a row for " + name, rows.indexOf(name) >= 0
                    && rows.indexOf(name) == rows.lastIndexOf(name));
        }
    }

    private static void everyTestIsNamed(String readme) throws IOException {
        try (Stream<Path> files = Files.list(TESTS)) {
            for (String file : files.map(path -> path.getFileName().toString()).toList()) {
                CHECK.holds("README.md names " + file, !file.endsWith("Test.java")
                        || readme.contains("`" + file.replace(".java", "") + "`"));
            }
        }
        CHECK.holds("README.md says how to run the tests", readme.contains("`.ci/run`"));
    }
}
