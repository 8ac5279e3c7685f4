import java.lang.annotation.ElementType;
import java.lang.annotation.Retention;
import java.lang.annotation.RetentionPolicy;
import java.lang.annotation.Target;

/** The words of the document that a test stands for; SentencesTest looks them up there. */
@Retention(RetentionPolicy.RUNTIME)
@Target(ElementType.METHOD)
@interface Says {
    /** A heading of the document: TERMS, Promise 5 and so on. */
    String in();

    /** Words as they stand under it; how they are broken into lines does not count. */
    String[] words();
}
