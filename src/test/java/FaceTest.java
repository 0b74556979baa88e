import java.io.IOException;
import java.lang.reflect.Constructor;
import java.lang.reflect.Field;
import java.lang.reflect.Method;
import java.lang.reflect.Modifier;
import java.nio.file.Files;
import java.nio.file.Path;
import java.util.Set;
import java.util.TreeSet;
import java.util.regex.Matcher;
import java.util.regex.Pattern;

/** The class shows the document's face and nothing else, and its source keeps to what LANGUAGE.md leaves. */
public final class FaceTest {
    private static final String INDEX = " IndexOutOfBoundsException";
    private static final String ARGUMENT = " IllegalArgumentException";
    private static final String STATE = " IllegalStateException";
    private static final Set<String> FACE = Set.of(
            "int setRate(int,int,int)" + INDEX + ARGUMENT,
            "int setSpread(int)" + ARGUMENT,
            "int setLimit(int,int)" + INDEX + ARGUMENT,
            "int stock(int,int)" + INDEX + ARGUMENT,
            "int next()",
            "int come()" + STATE,
            "int earn(int,int,int)" + INDEX + ARGUMENT,
            "int change(int,int,int,int)" + INDEX + STATE,
            "int order(int,int,int,int,int)" + INDEX + ARGUMENT + STATE,
            "int cancel(int)" + INDEX,
            "int has(int,int)" + INDEX,
            "int told(int,int)" + INDEX,
            "int about(int,int)" + INDEX,
            "int count(int)" + INDEX,
            "int would(int,int,int)" + INDEX + ARGUMENT,
            "int way(int,int,int)" + INDEX + ARGUMENT,
            "int ring(int,int)" + INDEX + ARGUMENT,
            "int needs(int,int)" + INDEX + ARGUMENT,
            "double mean(int)" + INDEX,
            "long digest()");
    private static final Check CHECK = new Check();

    public static void main(String[] args) throws IOException {
        members();
        source(Files.readString(Path.of("src/main/java/MoneyBooth.java")));
        CHECK.end();
    }

    private static void members() {
        CHECK.holds("the class is public and final",
                MoneyBooth.class.getModifiers() == (Modifier.PUBLIC | Modifier.FINAL));
        Constructor<?>[] constructors = MoneyBooth.class.getDeclaredConstructors();
        CHECK.holds("one public constructor without arguments", constructors.length == 1
                && constructors[0].getParameterCount() == 0 && constructors[0].getModifiers() == Modifier.PUBLIC);
        Set<String> shown = new TreeSet<>();
        Set<String> names = new TreeSet<>();
        for (Method method : MoneyBooth.class.getDeclaredMethods()) {
            if (!Modifier.isPrivate(method.getModifiers())) {
                shown.add(line(method));
                names.add(method.getName());
                CHECK.holds(line(method) + " is public and no more", method.getModifiers() == Modifier.PUBLIC);
            }
        }
        CHECK.holds("the face is " + FACE + " and not " + shown, shown.equals(FACE));
        for (Method method : MoneyBooth.class.getDeclaredMethods()) {
            CHECK.holds("no private method bears a public name: " + method.getName(),
                    !Modifier.isPrivate(method.getModifiers()) || !names.contains(method.getName()));
            CHECK.holds("at most seven parameters: " + method.getName(), method.getParameterCount() <= 7);
        }
        for (Field field : MoneyBooth.class.getDeclaredFields()) {
            CHECK.holds("a private field: " + field.getName(), Modifier.isPrivate(field.getModifiers()));
            CHECK.holds("no static state: " + field.getName(), !Modifier.isStatic(field.getModifiers())
                    || Modifier.isFinal(field.getModifiers()) && field.getType().isPrimitive());
        }
    }

    private static String line(Method method) {
        StringBuilder line = new StringBuilder(method.getReturnType() + " " + method.getName() + "(");
        for (Class<?> parameter : method.getParameterTypes()) {
            line.append(line.charAt(line.length() - 1) == '(' ? "" : ",").append(parameter);
        }
        line.append(")");
        for (Class<?> thrown : method.getExceptionTypes()) {
            line.append(" ").append(thrown.getSimpleName());
        }
        return line.toString();
    }

    private static void source(String text) {
        String code = text.replaceAll("(?s)/\\*.*?\\*/", "").replaceAll("//[^\n]*", "").replaceAll("\"[^\"\n]*\"", "\"\"");
        Matcher foreign = Pattern.compile("\\b(import|package|try|catch|finally|synchronized|assert|instanceof|native"
                + "|volatile|transient|strictfp|System|Object|Integer|Float|float|var)\\b|->|::|@").matcher(code);
        while (foreign.find()) {
            CHECK.holds("the source has no " + foreign.group(), false);
        }
        Matcher library = Pattern.compile("\\bMath\\.(\\w+)").matcher(code);
        while (library.find()) {
            CHECK.holds("Math." + library.group(1) + " is listed", Set.of("min", "max").contains(library.group(1)));
        }
        // a row is made once, in its field; so no call makes an object but the exception that it throws
        Matcher made = Pattern.compile("[^\n]*\\bnew\\b[^\n]*").matcher(code);
        while (made.find()) {
            CHECK.holds("nothing is made by a call: " + made.group(), made.group().matches(
                    " +throw new I\\w+Exception\\(\"\"\\);|    private final int\\[\\] \\w+ = new int\\[[A-Z_ *]+\\];"));
        }
        CHECK.holds("signs 1 to 127 alone", text.chars().allMatch(sign -> sign >= 1 && sign <= 127));
    }
}
