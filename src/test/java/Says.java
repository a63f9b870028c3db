import java.lang.annotation.ElementType;
import java.lang.annotation.Retention;
import java.lang.annotation.RetentionPolicy;
import java.lang.annotation.Target;

/** The words of the document for which a test stands: it fails if they are broken. */
@Retention(RetentionPolicy.RUNTIME)
@Target(ElementType.METHOD)
@interface Says {
    /** The part of the document: "Ahead", "Terms 0" to "Terms 4", "Promise 1" to "Promise 67". */
    String in();

    /** Sentences of that part, or pieces of a sentence that names several cases. */
    String[] value();
}
