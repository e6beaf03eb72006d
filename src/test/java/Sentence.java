import java.lang.annotation.Retention;
import java.lang.annotation.RetentionPolicy;

/** The sentence of the document that a test looks at, word for word, and the section where it stands. */
@Retention(RetentionPolicy.RUNTIME)
@interface Sentence {
    String of();

    String says();
}
