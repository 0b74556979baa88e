import java.lang.reflect.InvocationTargetException;
import java.lang.reflect.Method;
import java.util.ArrayList;
import java.util.Comparator;
import java.util.List;

/** Plays the tests of a class that stand for a sentence of the document each. */
final class Sentences {
    static final List<Class<?>> TESTS = List.of(FaceTest.class, TermsTest.class, BoothTest.class,
            CustomersTest.class, TellingTest.class, WouldTest.class);

    private Sentences() {
    }

    static void play(Class<?> tests) {
        int wrong = 0;
        List<Method> all = testsOf(tests);
        for (Method test : all) {
            wrong += wrongIn(test, true) > 0 ? 1 : 0;
        }
        System.out.println(all.size() + " sentences, " + wrong + " do not hold");
        if (wrong != 0 || all.isEmpty()) {
            System.exit(1);
        }
    }

    static List<Method> testsOf(Class<?> tests) {
        List<Method> all = new ArrayList<>();
        for (Method method : tests.getDeclaredMethods()) {
            if (method.isAnnotationPresent(Sentence.class)) {
                all.add(method);
            }
        }
        all.sort(Comparator.comparing(Method::getName));
        return all;
    }

    /** For a class loader that holds another MoneyBooth: the tests are named there, not handed over. */
    static int wrongIn(String tests, String test) throws ReflectiveOperationException {
        return wrongIn(Class.forName(tests).getDeclaredMethod(test, Check.class), false);
    }

    private static int wrongIn(Method test, boolean prints) {
        Sentence sentence = test.getAnnotation(Sentence.class);
        Check check = new Check(sentence.of() + " «" + sentence.words() + "»: ", prints);
        try {
            test.invoke(null, check);
        } catch (InvocationTargetException e) {
            check.fail("a call throws " + e.getCause());
        } catch (IllegalAccessException e) {
            check.fail("the test can not be played: " + e);
        }
        if (check.made() == 0) {
            check.fail("the test checks nothing");
        }
        return check.wrong();
    }
}
