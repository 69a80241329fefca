import java.lang.annotation.ElementType;
import java.lang.annotation.Retention;
import java.lang.annotation.RetentionPolicy;
import java.lang.annotation.Target;

/**
 * A test of one boundary case: of which promise (TERMS: what the document says ahead of them), and
 * the words that name it there.
 */
@Retention(RetentionPolicy.RUNTIME)
@Target(ElementType.METHOD)
@interface Edge {
    int TERMS = 0;

    int of();

    String says();
}
