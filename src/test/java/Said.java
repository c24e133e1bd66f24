import java.lang.annotation.ElementType;
import java.lang.annotation.Retention;
import java.lang.annotation.RetentionPolicy;
import java.lang.annotation.Target;

/** A test, and the sentences of ../shared/DOC.md to which it holds the class, each as it stands there. */
@Retention(RetentionPolicy.RUNTIME)
@Target(ElementType.METHOD)
@interface Said {
    /** The heading under which the sentences stand, of a promise as "Promise 2". */
    String under();

    String[] value();
}
