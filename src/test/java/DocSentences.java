import java.io.IOException;
import java.nio.file.Files;
import java.nio.file.Path;
import java.util.ArrayList;
import java.util.List;

/** The sentences of the document, cut at their dots and semicolons, with the sections that they stand in. */
final class DocSentences {
  static final class Sentence {
    final int promise;
    final String text;
    boolean quoted;

    Sentence(int promise, String text) { this.promise = promise; this.text = text; }
  }

  /** The section of what stands before the promises. */
  private static final int DESCRIPTION = 0;

  final List<Sentence> all = new ArrayList<>();

  DocSentences(Path document) throws IOException {
    String text = Files.readString(document).replace("`", "");
    for (String section : text.split("\n## ")) {
      if (section.startsWith("What it is") || section.startsWith("Description")) add(DESCRIPTION, section);
      if (section.startsWith("Promise ")) add(Integer.parseInt(section.substring(8, section.indexOf(':'))), section);
    }
  }

  private void add(int promise, String section) {
    String[] paragraphs = section.split("\n\\s*\n");
    for (int i = 1; i < paragraphs.length; i++) {
      for (String item : (paragraphs[i].startsWith("- ") ? paragraphs[i].substring(2).split("\n- ") : new String[] {paragraphs[i]})) {
        for (String sentence : item.trim().replaceAll("\\s+", " ").split("(?<=[.;]) ")) all.add(new Sentence(promise, sentence));
      }
    }
  }

  /** Marks the sentence as one that has a test; false if there is no such sentence, for this promise or for all. */
  boolean quote(int promise, String says) {
    boolean found = false;
    for (Sentence s : all) {
      boolean here = s.promise == promise || s.promise == DESCRIPTION;
      if (here && s.text.contains(says)) {
        s.quoted = true;
        found = true;
      }
    }
    return found;
  }

  /** Those that name a boundary case, and have no test. */
  List<Sentence> left() {
    List<Sentence> left = new ArrayList<>();
    for (Sentence s : all) if (!s.quoted && namesAnEdge(s)) left.add(s);
    return left;
  }

  /** Exceptions, what has a number in it, and all of the description but for what opens it, its headings and what leads on. */
  private static boolean namesAnEdge(Sentence s) {
    if (s.promise != DESCRIPTION) return s.text.startsWith("Throws ") || s.text.matches(".*[0-9].*");
    boolean heading = s.text.matches("([A-Z][a-z]+|Places and distances|Waiting lists|In doubt)\\.");
    boolean leads = s.text.matches("(A desk for places at schools|The constructor and the methods follow|what later calls answer).*");
    return !heading && !leads;
  }

  /** Whether a method has several exceptions, so that their order can be seen. */
  boolean hasOrder(int promise) {
    int count = 0;
    for (Sentence s : all) if (s.promise == promise && s.text.startsWith("Throws ")) count++;
    return count > 1;
  }
}
