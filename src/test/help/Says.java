import java.lang.annotation.ElementType;
import java.lang.annotation.Retention;
import java.lang.annotation.RetentionPolicy;
import java.lang.annotation.Target;

/** Marks a test and quotes the words of the document that it holds the class to. */
@Retention(RetentionPolicy.RUNTIME)
@Target(ElementType.METHOD)
@interface Says {
    int TERMS = 0;

    /** The promise in whose section the words stand; TERMS: ahead of all promises. */
    int promise() default TERMS;

    String words();
}
