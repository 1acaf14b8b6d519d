import java.lang.annotation.Retention;
import java.lang.annotation.RetentionPolicy;

/** Marks a test of one sentence of the document that names a boundary case. */
@Retention(RetentionPolicy.RUNTIME)
@interface Edge {
  int promise();

  /** The sentence, or the part of it, in the words of the document, without its backticks. */
  String says();
}
