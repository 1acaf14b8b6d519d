import java.io.IOException;
import java.lang.reflect.InvocationTargetException;
import java.lang.reflect.Method;
import java.nio.file.Path;
import java.util.ArrayList;
import java.util.Comparator;
import java.util.List;
import java.util.TreeSet;

/**
 * Runs the tests of the sentences that name a boundary case, and sees to it that each of these sentences has one.
 * Argument: the document.
 */
public final class EdgeTests extends Checks {
  private static final Class<?>[] GROUPS = {EdgesOfSchools.class, EdgesOfChildren.class, EdgesOfSeats.class, EdgesOfRecords.class};
  private static final String ORDER = "The exceptions of a method are checked in the order in which they are listed.";

  public static void main(String[] args) throws IOException, IllegalAccessException {
    DocSentences document = new DocSentences(Path.of(args[0]));
    TreeSet<Integer> orders = new TreeSet<>();
    List<Method> tests = tests();
    for (Method test : tests) {
      Edge edge = test.getAnnotation(Edge.class);
      about = "promise " + edge.promise() + ", \"" + edge.says() + "\" (" + test.getName() + ")";
      if (!document.quote(edge.promise(), edge.says())) fault("the document does not say so");
      if (edge.says().equals(ORDER)) orders.add(edge.promise());
      run(test);
    }
    for (DocSentences.Sentence left : document.left()) {
      about = left.promise == 0 ? "description" : "promise " + left.promise;
      fault("no test for \"" + left.text + "\"");
    }
    for (int promise = 1; promise <= 32; promise++) {
      about = "promise " + promise;
      if (document.hasOrder(promise) && !orders.contains(promise)) fault("no test for the order of its exceptions");
    }
    System.out.println(wrong == 0 ? "EdgeTests: all " + tests.size() + " sentences hold" : "EdgeTests: " + wrong + " faults");
    if (wrong != 0) System.exit(1);
  }

  private static List<Method> tests() {
    List<Method> tests = new ArrayList<>();
    for (Class<?> group : GROUPS) {
      for (Method m : group.getDeclaredMethods()) {
        if (m.isAnnotationPresent(Edge.class)) tests.add(m);
      }
    }
    tests.sort(Comparator.<Method>comparingInt(m -> m.getAnnotation(Edge.class).promise()).thenComparing(Method::getName));
    return tests;
  }

  private static void run(Method test) throws IllegalAccessException {
    try {
      test.invoke(null);
    } catch (InvocationTargetException e) {
      fault("threw " + e.getCause() + " at " + e.getCause().getStackTrace()[0]);
    }
  }
}
