import java.io.IOException;
import java.lang.reflect.Constructor;
import java.lang.reflect.Field;
import java.lang.reflect.Method;
import java.lang.reflect.Modifier;
import java.nio.file.Files;
import java.nio.file.Path;
import java.util.Set;
import java.util.TreeSet;
import java.util.regex.Matcher;
import java.util.regex.Pattern;

/** The class shows the face that stands in the document, and nothing else. */
public final class FaceTest {
    private static final Path DOCUMENT = Path.of("../shared/DOC.md");

    public static void main(String[] args) {
        Sentences.play(FaceTest.class);
    }

    @Sentence(of = "The public face", words = "public final class MoneyBooth {")
    @Fault(from = "public final class", to = "public class")
    @Fault(from = "public final class", to = "final class")
    static void publicAndFinal(Check check) {
        check.is("modifiers", Modifier.PUBLIC | Modifier.FINAL, MoneyBooth.class.getModifiers());
        check.holds("nothing is above it", MoneyBooth.class.getSuperclass() == Object.class);
        check.is("and nothing beside that", 0, MoneyBooth.class.getInterfaces().length);
    }

    @Sentence(of = "The public face", words = "public MoneyBooth();")
    @Fault(in = "MoneyBooth", from = "public MoneyBooth() {", to = "MoneyBooth() {")
    @Fault(in = "MoneyBooth", from = "public MoneyBooth() {",
            to = "private MoneyBooth(int day) { this(); } public MoneyBooth() {")
    static void oneConstructor(Check check) {
        Constructor<?>[] all = MoneyBooth.class.getDeclaredConstructors();
        check.is("constructors", 1, all.length);
        check.is("its parameters", 0, all[0].getParameterCount());
        check.is("its modifiers", Modifier.PUBLIC, all[0].getModifiers());
        check.is("its exceptions", 0, all[0].getExceptionTypes().length);
    }

    @Sentence(of = "The public face", words = "public long digest(); }")
    @Fault(in = "next", from = "public int next()", to = "public long next()")
    @Fault(in = "next", from = "public int next()", to = "int next()")
    @Fault(in = "next", from = "public int next()", to = "public final int next()")
    @Fault(in = "next", from = "public int next()", to = "public int next() throws IllegalStateException")
    @Fault(in = "come", from = "throws IllegalStateException", to = "")
    @Fault(in = "order", from = "IllegalArgumentException, IllegalStateException {", to = "IllegalStateException {")
    @Fault(in = "wholeOnes", from = "private", to = "public")
    @Fault(in = "wholeOnes", from = "private static", to = "static")
    static void theDocumentsMethods(Check check) throws IOException {
        Set<String> shown = new TreeSet<>();
        for (Method method : MoneyBooth.class.getDeclaredMethods()) {
            if (!Modifier.isPrivate(method.getModifiers())) {
                shown.add(line(method));
            }
        }
        Set<String> named = new TreeSet<>();
        Matcher lines = Pattern.compile("\n    (public \\w+ \\w+\\([^;]*);").matcher(Files.readString(DOCUMENT));
        while (lines.find()) {
            named.add(lines.group(1).replaceAll("\\bint \\w+(?=[,)])", "int"));
        }
        check.is("methods in the document", 20, named.size());
        check.holds("the face is " + named + " and not " + shown, named.equals(shown));
    }

    private static String line(Method method) {
        StringBuilder line = new StringBuilder(Modifier.toString(method.getModifiers()) + " " + method.getReturnType()
                + " " + method.getName() + "(");
        for (Class<?> parameter : method.getParameterTypes()) {
            line.append(line.charAt(line.length() - 1) == '(' ? "" : ", ").append(parameter);
        }
        line.append(")");
        for (Class<?> thrown : method.getExceptionTypes()) {
            line.append(line.charAt(line.length() - 1) == ')' ? " throws " : ", ").append(thrown.getSimpleName());
        }
        return line.toString();
    }

    @Sentence(of = "The public face", words = "public MoneyBooth(); public int setRate(")
    @Fault(from = "private static final int MONEYS", to = "public static final int MONEYS")
    @Fault(from = "private int day;", to = "int day;")
    @Fault(in = "bit", from = "private static int bit(",
            to = "private static int next(int money) { return money; } private static int bit(")
    static void nothingElse(Check check) {
        Set<String> names = new TreeSet<>();
        for (Method method : MoneyBooth.class.getMethods()) {
            names.add(method.getName());
        }
        for (Method method : MoneyBooth.class.getDeclaredMethods()) {
            check.holds("no private method bears a public name: " + method.getName(),
                    !Modifier.isPrivate(method.getModifiers()) || !names.contains(method.getName()));
        }
        for (Field field : MoneyBooth.class.getDeclaredFields()) {
            check.holds("a private field: " + field.getName(), Modifier.isPrivate(field.getModifiers()));
        }
    }
}
