import java.io.IOException;
import java.lang.reflect.Method;
import java.lang.reflect.Modifier;
import java.nio.file.Files;
import java.nio.file.Path;
import java.util.ArrayList;
import java.util.List;
import java.util.regex.Matcher;
import java.util.regex.Pattern;

/**
 * Writes the calls that README.md shows as a program that compares their answers with those that the page tells.
 * Arguments: the page, and the file to write, whose name is that of the class.
 */
public final class ReadmeCalls {
  /** A call that stands alone, or whose answer gets a name; behind it what is due, and perhaps a colon and words. */
  private static final Pattern TOLD = Pattern.compile("((?:\\w+ (\\w+) = )?(.*));\\s+// (answers|throws) ([^:]+)(?:: .*)?");

  private static final String HEAD = """
      public final class %s {
        private static int wrong = 0;

        private static void due(int line, Object got, String want) {
          if (String.valueOf(got).equals(want)) return;
          wrong++;
          System.out.println("README.md, line " + line + ": answered " + got + ", the page says " + want);
        }

        public static void main(String[] args) {
      """;
  private static final String TAIL = """
          System.out.println(wrong == 0 ? "ReadmeCalls: the page is right" : "ReadmeCalls: " + wrong + " answers are wrong");
          if (wrong != 0) System.exit(1);
        }
      }
      """;

  private static int wrong = 0;

  public static void main(String[] args) throws IOException {
    Path program = Path.of(args[1]);
    List<String> lines = Files.readAllLines(Path.of(args[0]));
    StringBuilder text = new StringBuilder(String.format(HEAD, program.getFileName().toString().replace(".java", "")));
    for (int number : shown(lines)) text.append("    ").append(checked(number, lines.get(number - 1))).append('\n');
    text.append(TAIL);
    dueMethods(text.toString());
    Files.createDirectories(program.getParent());
    Files.writeString(program, text);
    if (wrong != 0) System.exit(1);
  }

  private static void fault(String text) {
    wrong++;
    System.out.println("README.md" + text);
  }

  /** The numbers of the lines, from 1, that stand between the marks of a piece of Java. */
  private static List<Integer> shown(List<String> lines) {
    List<Integer> numbers = new ArrayList<>();
    boolean inside = false;
    for (int i = 0; i < lines.size(); i++) {
      String line = lines.get(i);
      if (line.startsWith("```")) inside = line.equals("```java");
      else if (inside && !line.isBlank()) numbers.add(i + 1);
    }
    return numbers;
  }

  private static String checked(int number, String line) {
    Matcher told = TOLD.matcher(line);
    if (!told.matches()) {
      boolean quiet = line.startsWith("for (") || line.contains("new SchoolPlaces()");
      if (!quiet) fault(", line " + number + ": a call without its answer: " + line);
      return line;
    }
    String due = ", \"" + told.group(5).trim() + "\");";
    if (told.group(4).equals("throws")) {
      return "try { " + told.group(3) + "; due(" + number + ", \"no exception\"" + due
          + " } catch (RuntimeException e) { due(" + number + ", e.getClass().getSimpleName()" + due + " }";
    }
    if (told.group(2) == null) return "due(" + number + ", " + told.group(3) + due;
    return told.group(1) + "; due(" + number + ", " + told.group(2) + due;
  }

  private static void dueMethods(String text) {
    for (Method m : SchoolPlaces.class.getDeclaredMethods()) {
      if (Modifier.isPublic(m.getModifiers()) && !text.contains("desk." + m.getName() + "(")) fault(": does not show " + m.getName());
    }
  }
}
