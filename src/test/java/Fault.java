import java.lang.annotation.ElementType;
import java.lang.annotation.Repeatable;
import java.lang.annotation.Retention;
import java.lang.annotation.RetentionPolicy;
import java.lang.annotation.Target;

/** A fault that breaks a test's sentence: other words in one place of the class, which the test has to find. */
@Retention(RetentionPolicy.RUNTIME)
@Target(ElementType.METHOD)
@Repeatable(Fault.All.class)
@interface Fault {
    /** The method of the class in which the words stand; without it they stand anywhere. */
    String in() default "";

    String from();

    String to();

    /** The faults of one test. */
    @Retention(RetentionPolicy.RUNTIME)
    @Target(ElementType.METHOD)
    @interface All {
        Fault[] value();
    }
}
