import java.lang.annotation.ElementType;
import java.lang.annotation.Retention;
import java.lang.annotation.RetentionPolicy;
import java.lang.annotation.Target;

/** Which promises a test belongs to, and whose words of ../shared/DOC.md it would find broken. */
@Retention(RetentionPolicy.RUNTIME)
@Target(ElementType.METHOD)
@interface Promise {
    int[] value();

    String[] says() default {};
}
