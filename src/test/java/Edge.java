import java.lang.annotation.ElementType;
import java.lang.annotation.Retention;
import java.lang.annotation.RetentionPolicy;
import java.lang.annotation.Target;

/** Marks a test of a boundary case: the promise that it is of, and the document's own words for the case. */
@Retention(RetentionPolicy.RUNTIME)
@Target(ElementType.METHOD)
@interface Edge {
    int promise();

    String says();
}
