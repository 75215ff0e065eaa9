import java.lang.annotation.ElementType;
import java.lang.annotation.Retention;
import java.lang.annotation.RetentionPolicy;
import java.lang.annotation.Target;

/** Marks the test of one sentence of the document that names a boundary case. */
@Retention(RetentionPolicy.RUNTIME)
@Target(ElementType.METHOD)
@interface Boundary {
    /** The promises that the sentence bears on. */
    int[] promise();

    /** The sentence, or the part of it that the test is for, in the document's own words. */
    String says();
}
