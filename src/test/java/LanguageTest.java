import java.io.IOException;
import java.nio.file.Files;
import java.nio.file.Path;
import java.util.ArrayList;
import java.util.LinkedHashMap;
import java.util.List;
import java.util.Map;
import java.util.Set;
import java.util.TreeSet;
import java.util.regex.Matcher;
import java.util.regex.Pattern;

/**
 * The class keeps to the rules of LANGUAGE.md, as far as its text shows that; and each rule is tried on faults put into
 * the text. It holds the class to less than the rules leave: a part of Java that it begins to use belongs here first.
 */
public final class LanguageTest {
    private static final Pattern METHOD = Pattern.compile(
            "\n    ((?:public|private)[^;={(]*?)(\\w+)\\(([^)]*)\\)[^{;]*\\{\n(.*?)\n    \\}(?=\n)", Pattern.DOTALL);
    private static final Check CHECK = new Check();

    public static void main(String[] args) throws IOException {
        String source = Files.readString(Path.of("src/main/java/MoneyBooth.java"));
        for (String broken : broken(source)) {
            CHECK.holds(broken, false);
        }
        faults(source);
        CHECK.end();
    }

    private static void faults(String source) {
        breaks(source, 1, "/** An exchange", "package booth;\n/** An exchange");
        breaks(source, 2, "day++;", "Runnable later = () -> day++;");
        breaks(source, 2, "day++;", "Runnable later = this::come;");
        breaks(source, 4, "Math.max(most,", "Math.addExact(most,");
        breaks(source, 4, "day++;", "day = (int) System.nanoTime();");
        breaks(source, 4, "/** An exchange", "import java.util.List;\n/** An exchange");
        breaks(source, 4, "no such place", "no such pl\u00e4ce");
        breaks(source, 5, "static final int MONEYS", "static int MONEYS");
        breaks(source, 5, "static final int MONEYS = 5;",
                "static final int MONEYS = 5;\n    private static final int[] KEPT = new int[2];");
        breaks(source, 6, "throw new IllegalStateException(\"10 orders wait\")",
                "throw new IllegalStateException(\"\" + waiting)");
        breaks(source, 6, "throw new IllegalStateException(\"10 orders wait\")", "throw new Error(\"10 orders wait\")");
        breaks(source, 6, "stocks[money] = FIRST_STOCK;", "throw new IllegalStateException(\"no stock\");");
        breaks(source, 6, "day++;", "try { day++; } catch (RuntimeException e) { day--; }");
        breaks(source, 8, "return place < 0 ? -1 : leastRateFor(place);", "return needs(to, from);");
        breaks(source, 8, "long there = behindOneChange",
                "long there = mostOver(at, over, goal, 0, 0, 0); there = behindOneChange");
        breaks(source, 9, "day++;", "while (day < 3) { day++; }");
        breaks(source, 9, "for (int money = 0; money < MONEYS; money++) {\n            givenToday",
                "for (int money = 0; money < MONEYS;) {\n            givenToday");
        breaks(source, 11, "int bit(int money)", "int bit(int money, int b, int c, int d, int e, int f, int g, int h)");
        breaks(source, 11, "day++;", "day++;" + "\n        day += 0;".repeat(60));
        breaks(source, 11, "private int day;", fields(8));
        breaks(source, 11, "    // ---- changes", chain(8) + "    // ---- changes");
        breaks(source, 11, "    // ---- changes",
                "    private static final class Jar {\n    }\n".repeat(12) + "    // ---- changes");
        breaks(source, 12, "day++;", "int[] row = new int[5];");
        breaks(source, 12, "day++;", "day++; StringBuilder text = new StringBuilder();");
        CHECK.holds("twenty fields are not too many", broken(source.replace("private int day;", fields(7))).isEmpty());
    }

    private static String fields(int more) {
        StringBuilder text = new StringBuilder("private int day;");
        for (int i = 0; i < more; i++) {
            text.append("\n    private int more").append(i).append(";");
        }
        return text.toString();
    }

    /** As many methods, each of which calls the next one, the last one a method that calls two more. */
    private static String chain(int length) {
        StringBuilder text = new StringBuilder();
        for (int i = 0; i < length; i++) {
            text.append("    private static void link").append(i).append("() {\n        ")
                    .append(i + 1 < length ? "link" + (i + 1) + "();" : "isAmountOrNone(1);").append("\n    }\n\n");
        }
        return text.toString();
    }

    private static void breaks(String source, int rule, String from, String to) {
        CHECK.holds("the class has «" + from + "»", source.contains(from));
        int at = source.indexOf(from);
        String faulty = at < 0 ? source : source.substring(0, at) + to + source.substring(at + from.length());
        boolean found = false;
        for (String broken : broken(faulty)) {
            found |= broken.startsWith("rule " + rule + ":");
        }
        CHECK.holds("rule " + rule + " finds «" + to + "»", found);
    }

    private static List<String> broken(String source) {
        List<String> broken = new ArrayList<>();
        String code = source.replaceAll("(?s)/\\*.*?\\*/", "").replaceAll("//[^\n]*", "")
                .replaceAll("\"[^\"\n]*\"", "\"\"");
        words(code, broken);
        exceptions(code, broken);
        fieldsAndClasses(code, broken);
        methods(code, broken);
        made(code, broken);
        if (!source.chars().allMatch(sign -> sign >= 1 && sign <= 127)) {
            broken.add("rule 4: a sign that is not 1 to 127");
        }
        return broken;
    }

    private static void each(List<String> broken, int rule, String pattern, String code) {
        Matcher found = Pattern.compile(pattern).matcher(code);
        while (found.find()) {
            broken.add("rule " + rule + ": " + found.group().trim());
        }
    }

    private static void words(String code, List<String> broken) {
        each(broken, 1, "\\bpackage\\b", code);
        each(broken, 2, "->|::|@", code);
        each(broken, 4, "\\b(import|native|volatile|transient|strictfp|instanceof|System|Object|Integer|Long|Thread"
                + "|Float|float|var|Runnable)\\b", code);
        each(broken, 4, "\\bMath\\.(?!(min|max)\\()\\w+", code);
        each(broken, 9, "\\b(while|do)\\b", code);
        each(broken, 9, "\\bfor \\((?!int (\\w+) = [\\w +]+; \\1 < [\\w.]+; \\1\\+\\+\\) \\{)[^\n]*", code);
    }

    private static void exceptions(String code, List<String> broken) {
        each(broken, 6, "\\b(try|catch|finally|synchronized|assert)\\b", code);
        each(broken, 6,
                "\\bthrow\\b(?! new (IllegalState|IllegalArgument|IndexOutOfBounds)Exception\\(\"\"\\);)[^\n]*", code);
        each(broken, 6, "\n    public MoneyBooth\\((?s:(?!\n    \\}).)*\\bthrow\\b", code);
    }

    private static void fieldsAndClasses(String code, List<String> broken) {
        each(broken, 5, "\n    \\w+ static (?!final (int|long|boolean|char|String) \\w+ =)[^(\n]*[;=][^\n]*", code);
        int fields = count("\n    private (?!static)[^(\n]*[;=]", code);
        if (fields > 20) {
            broken.add("rule 11: " + fields + " fields");
        }
        if (count("\\b(class|enum|record|interface)\\s+\\w", code) > 12) {
            broken.add("rule 11: too many classes");
        }
    }

    private static int count(String pattern, String code) {
        Matcher found = Pattern.compile(pattern).matcher(code);
        int count = 0;
        while (found.find()) {
            count++;
        }
        return count;
    }

    private static void methods(String code, List<String> broken) {
        Map<String, String> bodies = new LinkedHashMap<>();
        Matcher method = METHOD.matcher(code);
        while (method.find()) {
            bodies.put(method.group(2), method.group(4));
            if (count(",", method.group(3)) > 6) {
                broken.add("rule 11: parameters of " + method.group(2));
            }
            if (count("\n", method.group()) > 60) {
                broken.add("rule 11: lines of " + method.group(2));
            }
        }
        // these two call one another, and hand on how many changes are left
        Set<String> round = Set.of("mostAtGoal", "mostOver");
        if (!calledBy("mostOver", bodies).contains("mostAtGoal") || calledBy("mostOver", bodies).contains("mostOver")
                || !bodies.get("mostAtGoal").contains("if (changesLeft < 1)")) {
            broken.add("rule 8: the changes that are left are no guard any more");
        }
        for (String name : bodies.keySet()) {
            int depth = depth(name, bodies, round, 0);
            if (depth > 99) {
                broken.add("rule 8: " + name + " comes back to itself");
            } else if (depth > 8) {
                broken.add("rule 11: " + name + " goes " + depth + " deep");
            }
        }
    }

    /** How many calls stand open at most below and with this one; far too many if it comes back to itself. */
    private static int depth(String name, Map<String, String> bodies, Set<String> round, int above) {
        if (above > 99) {
            return 1;
        }
        int below = 0;
        for (String called : calledBy(name, bodies)) {
            if (!round.contains(name) || !round.contains(called)) {
                below = Math.max(below, depth(called, bodies, round, above + 1));
            }
        }
        return 1 + below;
    }

    private static Set<String> calledBy(String name, Map<String, String> bodies) {
        Set<String> called = new TreeSet<>();
        Matcher call = Pattern.compile("(?<![\\w.]|new )(\\w+)\\(").matcher(bodies.getOrDefault(name, ""));
        while (call.find()) {
            if (bodies.containsKey(call.group(1))) {
                called.add(call.group(1));
            }
        }
        return called;
    }

    /** A row is made once, in its field: so no call makes an object but the exception that it throws. */
    private static void made(String code, List<String> broken) {
        each(broken, 12, "\n(?! +throw new I\\w+Exception\\(\"\"\\);\n"
                + "|    private final int\\[\\] \\w+ = new int\\[[A-Z_ *]+\\];\n)"
                + "[^\n]*\\bnew\\b[^\n]*", code);
    }
}
