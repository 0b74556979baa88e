import java.io.ByteArrayOutputStream;
import java.io.IOException;
import java.io.InputStream;
import java.io.OutputStream;
import java.lang.reflect.Method;
import java.net.URI;
import java.nio.file.Files;
import java.nio.file.Path;
import java.util.ArrayList;
import java.util.List;
import java.util.regex.Matcher;
import java.util.regex.Pattern;
import javax.tools.ForwardingJavaFileManager;
import javax.tools.JavaCompiler;
import javax.tools.JavaFileManager;
import javax.tools.JavaFileObject;
import javax.tools.SimpleJavaFileObject;
import javax.tools.ToolProvider;

/**
 * Every sentence of the document that names a boundary has a test, and every such test finds the faults that break
 * its sentence: each fault is put into the class, and the test is played with that class.
 */
public final class SentencesTest {
    private static final Path SOURCE = Path.of("src/main/java/MoneyBooth.java");
    private static final Path DOCUMENT = Path.of("../shared/DOC.md");
    private static final Check CHECK = new Check();

    public static void main(String[] args) throws Exception {
        everyBoundaryHasATest(Files.readString(DOCUMENT));
        everyFaultIsFound(Files.readString(SOURCE));
        CHECK.end();
    }

    // ---- the document

    private static void everyBoundaryHasATest(String document) {
        for (String section : document.split("\n## ")) {
            String title = section.split("[:\n]", 2)[0];
            if (title.startsWith("Promise") || title.equals("Terms") || title.equals("What it is")
                    || title.equals("Not promised")) {
                everyBoundaryHasATest(title, plain(section.substring(section.indexOf('\n'))));
            }
        }
        for (Class<?> tests : Sentences.TESTS) {
            for (Method test : Sentences.testsOf(tests)) {
                Sentence sentence = test.getAnnotation(Sentence.class);
                CHECK.holds("the document has no «" + sentence.words() + "» in " + sentence.of(),
                        sectionOf(document, sentence.of()).contains(sentence.words()));
            }
        }
    }

    /** A number, and each line that says what is returned or thrown, has to stand in the words of a test. */
    private static void everyBoundaryHasATest(String title, String section) {
        String left = section;
        for (Class<?> tests : Sentences.TESTS) {
            for (Method test : Sentences.testsOf(tests)) {
                Sentence sentence = test.getAnnotation(Sentence.class);
                if (sentence.of().equals(title)) {
                    left = left.replace(sentence.words(), "");
                }
            }
        }
        Matcher bare = Pattern.compile("[^.;]*(\\d|Returns |Throws)[^.;]*").matcher(withoutNames(left));
        while (bare.find()) {
            CHECK.holds(title + " has words without a test: " + bare.group(), false);
        }
        CHECK.holds(title + " is looked through", true);
    }

    private static String sectionOf(String document, String title) {
        for (String section : document.split("\n## ")) {
            if (section.split("[:\n]", 2)[0].equals(title)) {
                return plain(section);
            }
        }
        return "";
    }

    private static String plain(String text) {
        return text.replaceAll("\\s+", " ");
    }

    /** The words that only tell where a line of the document has its parts: names of methods and of their parts. */
    private static String withoutNames(String text) {
        return text.replaceAll("`[^`]*`", "");
    }

    // ---- the faults

    private static void everyFaultIsFound(String source) throws Exception {
        int faults = 0;
        for (Class<?> tests : Sentences.TESTS) {
            for (Method test : Sentences.testsOf(tests)) {
                Fault[] all = test.getAnnotationsByType(Fault.class);
                CHECK.holds(test + " has a fault to find", all.length > 0);
                for (Fault fault : all) {
                    isFound(test, fault, source);
                    faults++;
                }
            }
        }
        System.out.println(faults + " faults put in");
    }

    private static void isFound(Method test, Fault fault, String source) throws Exception {
        String name = test.getDeclaringClass().getName() + "." + test.getName() + ": in " + fault.in() + " «"
                + fault.from() + "» as «" + fault.to() + "»";
        String faulty = withFault(source, fault);
        CHECK.holds(name + " has one place in the class", faulty != null);
        byte[] booth = faulty == null ? null : compiled(faulty);
        CHECK.holds(name + " compiles", booth != null);
        if (booth != null) {
            Class<?> there = new WithBooth(booth).loadClass("Sentences");
            Method played = there.getDeclaredMethod("wrongIn", String.class, String.class);
            played.setAccessible(true);
            int wrong = (int) played.invoke(null, test.getDeclaringClass().getName(), test.getName());
            CHECK.holds(name + " is found", wrong > 0);
        }
    }

    /** Null unless the words stand in the method, or without one in the class, just once. */
    private static String withFault(String source, Fault fault) {
        int start = 0;
        int end = source.length();
        if (!fault.in().isEmpty()) {
            Matcher head = Pattern.compile("\n    (public|private)[^;={(]*\\b" + fault.in() + "\\(").matcher(source);
            if (!head.find()) {
                return null;
            }
            start = head.start();
            end = source.indexOf("\n    }\n", start);
        }
        int at = source.indexOf(fault.from(), start);
        if (at < 0 || at >= end) {
            return null;
        }
        int again = source.indexOf(fault.from(), at + 1);
        if (again >= 0 && again < end) {
            return null;
        }
        return source.substring(0, at) + fault.to() + source.substring(at + fault.from().length());
    }

    private static byte[] compiled(String source) throws IOException {
        JavaCompiler compiler = ToolProvider.getSystemJavaCompiler();
        ByteArrayOutputStream bytes = new ByteArrayOutputStream();
        JavaFileObject text = new SimpleJavaFileObject(URI.create("text:///MoneyBooth.java"),
                JavaFileObject.Kind.SOURCE) {
            @Override
            public CharSequence getCharContent(boolean ignored) {
                return source;
            }
        };
        JavaFileObject booth = new SimpleJavaFileObject(URI.create("bytes:///MoneyBooth.class"),
                JavaFileObject.Kind.CLASS) {
            @Override
            public OutputStream openOutputStream() {
                return bytes;
            }
        };
        try (JavaFileManager files = new ForwardingJavaFileManager<JavaFileManager>(
                compiler.getStandardFileManager(null, null, null)) {
            @Override
            public JavaFileObject getJavaFileForOutput(Location place, String name, JavaFileObject.Kind kind,
                    javax.tools.FileObject sibling) {
                return booth;
            }
        }) {
            boolean good = compiler.getTask(null, files, null, List.of("-proc:none"), null, List.of(text)).call();
            return good ? bytes.toByteArray() : null;
        }
    }

    /** Has the tests once more, with another MoneyBooth to play with. */
    private static final class WithBooth extends ClassLoader {
        private final byte[] booth;

        WithBooth(byte[] booth) {
            super(ClassLoader.getPlatformClassLoader());
            this.booth = booth;
        }

        @Override
        protected Class<?> findClass(String name) throws ClassNotFoundException {
            if (name.equals("MoneyBooth")) {
                return defineClass(name, booth, 0, booth.length);
            }
            try (InputStream in = SentencesTest.class.getResourceAsStream("/" + name + ".class")) {
                if (in == null) {
                    throw new ClassNotFoundException(name);
                }
                byte[] bytes = in.readAllBytes();
                return defineClass(name, bytes, 0, bytes.length);
            } catch (IOException e) {
                throw new ClassNotFoundException(name, e);
            }
        }
    }
}
