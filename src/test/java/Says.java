import java.lang.annotation.ElementType;
import java.lang.annotation.Retention;
import java.lang.annotation.RetentionPolicy;
import java.lang.annotation.Target;

/** The document's own words that a test holds the program to; SentencesTest looks that they stand there. */
@Retention(RetentionPolicy.RUNTIME)
@Target(ElementType.METHOD)
@interface Says {
    /** The promise that the words stand under, 0 if they stand ahead of the promises. */
    int promise();

    String[] value();
}
