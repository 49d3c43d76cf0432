import java.lang.annotation.ElementType;
import java.lang.annotation.Retention;
import java.lang.annotation.RetentionPolicy;
import java.lang.annotation.Target;

/** A test of one sentence of the document, in the document's words. */
@Retention(RetentionPolicy.RUNTIME)
@Target(ElementType.METHOD)
@interface Sentence {
    /** The promise whose call is tested; 0: all of them. */
    int of();

    /** Words of that promise, or of the Terms. */
    String says();
}
