import java.lang.annotation.ElementType;
import java.lang.annotation.Retention;
import java.lang.annotation.RetentionPolicy;
import java.lang.annotation.Target;

/** Stands before a test of one sentence of the document; the test's name says the case. */
@Retention(RetentionPolicy.RUNTIME)
@Target(ElementType.METHOD)
@interface Edge {
    /** The promise's number; 0 for the terms, which all promises share. */
    int promise();

    /** The sentence, in the words of the document; SentencesTest looks them up there. */
    String says();
}
