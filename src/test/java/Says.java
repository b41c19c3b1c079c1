import java.lang.annotation.Retention;
import java.lang.annotation.RetentionPolicy;

/** The sentence of the document that a test is for, or the part of it, word for word. */
@Retention(RetentionPolicy.RUNTIME)
@interface Says {
    /** The promise in whose section it stands; 0: it is of the Terms; -1: it is ahead of these. */
    int promise() default 0;

    String value();
}
